/-! ===== 10: the tables of the methods that are evaluated: the reference, the class, the library (by wip/p1/emit.py) ===== -/
def al_RX8 : String := "TableTongue$Strings"
def al_RJ0 : String := "java/lang/String"
def al_RJ1 : String := "java/lang/StringLatin1"
def al_RJ3 : String := "jdk/internal/util/Preconditions"
def al_RX1 : String := "TableTongue$Library"
def al_RX12 : String := "TableTongueModel"
def al_RX11 : String := "TableTongue"
def al_RX6 : String := "TableTongue$Program"
def al_RX9 : String := "TableTongue$Tables"
def al_RX3 : String := "TableTongue$Objects"
def al_RX5 : String := "TableTongue$Part"
def al_RX10 : String := "TableTongue$Tokens"
def al_RX4 : String := "TableTongue$Parser"
def al_RX7 : String := "TableTongue$Scopes"
def al_RX0 : String := "TableTongue$Gathering"
def al_RX2 : String := "TableTongue$Machine"
def al_RJ7 : String := "java/util/Arrays"
def al_TX12 : u_T := fun k => match k with
  | 0 => ("TableTongueModel", "thrown", "I", false)
  | 1 => ("TableTongueModel", "text", "[I", true)
  | 2 => ("TableTongueModel", "size", "I", false)
  | 3 => ("TableTongueModel", "compiled", "Z", false)
  | 4 => ("TableTongueModel", "faultCode", "I", false)
  | 5 => ("TableTongueModel", "faultAt", "I", false)
  | 6 => ("TableTongueModel", "faultLine", "I", false)
  | 7 => ("TableTongueModel", "pool", "[B", true)
  | 8 => ("TableTongueModel", "poolEnd", "I", false)
  | 9 => ("TableTongueModel", "nameAt", "[I", true)
  | 10 => ("TableTongueModel", "nameLong", "[I", true)
  | 11 => ("TableTongueModel", "nameSort", "[I", true)
  | 12 => ("TableTongueModel", "nameNext", "[I", true)
  | 13 => ("TableTongueModel", "nameHeads", "[I", true)
  | 14 => ("TableTongueModel", "nameMany", "I", false)
  | 15 => ("TableTongueModel", "baseMany", "I", false)
  | 16 => ("TableTongueModel", "basePool", "I", false)
  | 17 => ("TableTongueModel", "madeStrings", "I", false)
  | 18 => ("TableTongueModel", "madeBytes", "I", false)
  | 19 => ("TableTongueModel", "buffer", "[B", true)
  | 20 => ("TableTongueModel", "built", "I", false)
  | 21 => ("TableTongueModel", "tokenKind", "[I", true)
  | 22 => ("TableTongueModel", "tokenAt", "[I", true)
  | 23 => ("TableTongueModel", "tokenValue", "[J", true)
  | 24 => ("TableTongueModel", "tokenMany", "I", false)
  | 25 => ("TableTongueModel", "ti", "I", false)
  | 26 => ("TableTongueModel", "protoStart", "[I", true)
  | 27 => ("TableTongueModel", "protoParams", "[I", true)
  | 28 => ("TableTongueModel", "protoLocals", "[I", true)
  | 29 => ("TableTongueModel", "protoCaptured", "[I", true)
  | 30 => ("TableTongueModel", "protoDots", "[Z", true)
  | 31 => ("TableTongueModel", "protoLine", "[I", true)
  | 32 => ("TableTongueModel", "fromLocal", "[Z", true)
  | 33 => ("TableTongueModel", "fromIndex", "[I", true)
  | 34 => ("TableTongueModel", "protos", "I", false)
  | 35 => ("TableTongueModel", "op", "[I", true)
  | 36 => ("TableTongueModel", "opA", "[I", true)
  | 37 => ("TableTongueModel", "opB", "[I", true)
  | 38 => ("TableTongueModel", "opLine", "[I", true)
  | 39 => ("TableTongueModel", "wholes", "[J", true)
  | 40 => ("TableTongueModel", "wholeMany", "I", false)
  | 41 => ("TableTongueModel", "words", "I", false)
  | 42 => ("TableTongueModel", "waitState", "[I", true)
  | 43 => ("TableTongueModel", "waitA", "[I", true)
  | 44 => ("TableTongueModel", "waitB", "[I", true)
  | 45 => ("TableTongueModel", "waitC", "[I", true)
  | 46 => ("TableTongueModel", "waits", "I", false)
  | 47 => ("TableTongueModel", "nest", "I", false)
  | 48 => ("TableTongueModel", "knownName", "[I", true)
  | 49 => ("TableTongueModel", "knownSlot", "[I", true)
  | 50 => ("TableTongueModel", "known", "I", false)
  | 51 => ("TableTongueModel", "levelBase", "[I", true)
  | 52 => ("TableTongueModel", "levelProto", "[I", true)
  | 53 => ("TableTongueModel", "level", "I", false)
  | 54 => ("TableTongueModel", "loopChain", "[I", true)
  | 55 => ("TableTongueModel", "loopLevel", "[I", true)
  | 56 => ("TableTongueModel", "loops", "I", false)
  | 57 => ("TableTongueModel", "placeSort", "[I", true)
  | 58 => ("TableTongueModel", "placeArg", "[I", true)
  | 59 => ("TableTongueModel", "placeLine", "[I", true)
  | 60 => ("TableTongueModel", "placeMany", "I", false)
  | 61 => ("TableTongueModel", "chainSort", "I", false)
  | 62 => ("TableTongueModel", "chainArg", "I", false)
  | 63 => ("TableTongueModel", "chainLine", "I", false)
  | 64 => ("TableTongueModel", "lastMulti", "I", false)
  | 65 => ("TableTongueModel", "builtMany", "I", false)
  | 66 => ("TableTongueModel", "builtPool", "I", false)
  | 67 => ("TableTongueModel", "readKind", "I", false)
  | 68 => ("TableTongueModel", "readValue", "J", false)
  | 69 => ("TableTongueModel", "readEnd", "I", false)
  | 70 => ("TableTongueModel", "objKind", "[I", true)
  | 71 => ("TableTongueModel", "meta", "[I", true)
  | 72 => ("TableTongueModel", "firstPlace", "[I", true)
  | 73 => ("TableTongueModel", "lastPlace", "[I", true)
  | 74 => ("TableTongueModel", "markTurn", "[J", true)
  | 75 => ("TableTongueModel", "objData", "[I", true)
  | 76 => ("TableTongueModel", "objCells", "[I", true)
  | 77 => ("TableTongueModel", "made", "I", false)
  | 78 => ("TableTongueModel", "turns", "J", false)
  | 79 => ("TableTongueModel", "plKeyKind", "[I", true)
  | 80 => ("TableTongueModel", "plKey", "[J", true)
  | 81 => ("TableTongueModel", "plKind", "[I", true)
  | 82 => ("TableTongueModel", "plValue", "[J", true)
  | 83 => ("TableTongueModel", "plTable", "[I", true)
  | 84 => ("TableTongueModel", "plNext", "[I", true)
  | 85 => ("TableTongueModel", "plChain", "[I", true)
  | 86 => ("TableTongueModel", "heads", "[I", true)
  | 87 => ("TableTongueModel", "freePlaces", "[I", true)
  | 88 => ("TableTongueModel", "freeMany", "I", false)
  | 89 => ("TableTongueModel", "placesMany", "I", false)
  | 90 => ("TableTongueModel", "gotKind", "I", false)
  | 91 => ("TableTongueModel", "gotNumber", "J", false)
  | 92 => ("TableTongueModel", "cellKind", "[I", true)
  | 93 => ("TableTongueModel", "cellNumber", "[J", true)
  | 94 => ("TableTongueModel", "cellMarked", "[Z", true)
  | 95 => ("TableTongueModel", "freeCells", "[I", true)
  | 96 => ("TableTongueModel", "freeCellMany", "I", false)
  | 97 => ("TableTongueModel", "partState", "[I", true)
  | 98 => ("TableTongueModel", "partObject", "[I", true)
  | 99 => ("TableTongueModel", "partKind", "[I", true)
  | 100 => ("TableTongueModel", "partNumber", "[J", true)
  | 101 => ("TableTongueModel", "frameMany", "[I", true)
  | 102 => ("TableTongueModel", "heights", "[I", true)
  | 103 => ("TableTongueModel", "markMany", "[I", true)
  | 104 => ("TableTongueModel", "depths", "[I", true)
  | 105 => ("TableTongueModel", "resumer", "[I", true)
  | 106 => ("TableTongueModel", "goMode", "[I", true)
  | 107 => ("TableTongueModel", "goWant", "[I", true)
  | 108 => ("TableTongueModel", "stopMode", "[I", true)
  | 109 => ("TableTongueModel", "stopWant", "[I", true)
  | 110 => ("TableTongueModel", "partMany", "I", false)
  | 111 => ("TableTongueModel", "cur", "I", false)
  | 112 => ("TableTongueModel", "vKind", "[I", true)
  | 113 => ("TableTongueModel", "vNumber", "[J", true)
  | 114 => ("TableTongueModel", "marks", "[I", true)
  | 115 => ("TableTongueModel", "fType", "[I", true)
  | 116 => ("TableTongueModel", "fProto", "[I", true)
  | 117 => ("TableTongueModel", "fFunction", "[I", true)
  | 118 => ("TableTongueModel", "fPc", "[I", true)
  | 119 => ("TableTongueModel", "fMode", "[I", true)
  | 120 => ("TableTongueModel", "fWant", "[I", true)
  | 121 => ("TableTongueModel", "fBase", "[I", true)
  | 122 => ("TableTongueModel", "fMarks", "[I", true)
  | 123 => ("TableTongueModel", "fDots", "[I", true)
  | 124 => ("TableTongueModel", "fLine", "[I", true)
  | 125 => ("TableTongueModel", "fFrom", "[I", true)
  | 126 => ("TableTongueModel", "fTo", "[I", true)
  | 127 => ("TableTongueModel", "fGone", "[I", true)
  | 128 => ("TableTongueModel", "fCell", "[I", true)
  | 129 => ("TableTongueModel", "todo", "I", false)
  | 130 => ("TableTongueModel", "mode", "I", false)
  | 131 => ("TableTongueModel", "want", "I", false)
  | 132 => ("TableTongueModel", "line", "I", false)
  | 133 => ("TableTongueModel", "calleeKind", "I", false)
  | 134 => ("TableTongueModel", "callee", "J", false)
  | 135 => ("TableTongueModel", "argKind", "[I", true)
  | 136 => ("TableTongueModel", "arg", "[J", true)
  | 137 => ("TableTongueModel", "args", "I", false)
  | 138 => ("TableTongueModel", "resKind", "[I", true)
  | 139 => ("TableTongueModel", "res", "[J", true)
  | 140 => ("TableTongueModel", "resMany", "I", false)
  | 141 => ("TableTongueModel", "errKind", "I", false)
  | 142 => ("TableTongueModel", "errNumber", "J", false)
  | 143 => ("TableTongueModel", "over", "I", false)
  | 144 => ("TableTongueModel", "left", "I", false)
  | 145 => ("TableTongueModel", "steps", "J", false)
  | 146 => ("TableTongueModel", "finalKind", "[I", true)
  | 147 => ("TableTongueModel", "finalNumber", "[J", true)
  | 148 => ("TableTongueModel", "finalMany", "I", false)
  | 149 => ("TableTongueModel", "output", "[B", true)
  | 150 => ("TableTongueModel", "outMany", "I", false)
  | 151 => ("TableTongueModel", "acts", "[I", true)
  | 152 => ("TableTongueModel", "actsTop", "I", false)
  | 153 => ("TableTongueModel", "actsCalled", "I", false)
  | 154 => ("TableTongueModel", "reached", "[Z", true)
  | 155 => ("TableTongueModel", "partReached", "[Z", true)
  | 156 => ("TableTongueModel", "queue", "[I", true)
  | 157 => ("TableTongueModel", "queued", "I", false)
  | 158 => ("TableTongueModel", "byKey", "[I", true)
  | _ => ("TableTongueModel", "nextKey", "[I", true)
def al_YX12 : Nat → FieldType := fun k => match k with
  | 0 => .int
  | 1 => .array .int
  | 2 => .int
  | 3 => .boolean
  | 4 => .int
  | 5 => .int
  | 6 => .int
  | 7 => .array .byte
  | 8 => .int
  | 9 => .array .int
  | 10 => .array .int
  | 11 => .array .int
  | 12 => .array .int
  | 13 => .array .int
  | 14 => .int
  | 15 => .int
  | 16 => .int
  | 17 => .int
  | 18 => .int
  | 19 => .array .byte
  | 20 => .int
  | 21 => .array .int
  | 22 => .array .int
  | 23 => .array .long
  | 24 => .int
  | 25 => .int
  | 26 => .array .int
  | 27 => .array .int
  | 28 => .array .int
  | 29 => .array .int
  | 30 => .array .boolean
  | 31 => .array .int
  | 32 => .array .boolean
  | 33 => .array .int
  | 34 => .int
  | 35 => .array .int
  | 36 => .array .int
  | 37 => .array .int
  | 38 => .array .int
  | 39 => .array .long
  | 40 => .int
  | 41 => .int
  | 42 => .array .int
  | 43 => .array .int
  | 44 => .array .int
  | 45 => .array .int
  | 46 => .int
  | 47 => .int
  | 48 => .array .int
  | 49 => .array .int
  | 50 => .int
  | 51 => .array .int
  | 52 => .array .int
  | 53 => .int
  | 54 => .array .int
  | 55 => .array .int
  | 56 => .int
  | 57 => .array .int
  | 58 => .array .int
  | 59 => .array .int
  | 60 => .int
  | 61 => .int
  | 62 => .int
  | 63 => .int
  | 64 => .int
  | 65 => .int
  | 66 => .int
  | 67 => .int
  | 68 => .long
  | 69 => .int
  | 70 => .array .int
  | 71 => .array .int
  | 72 => .array .int
  | 73 => .array .int
  | 74 => .array .long
  | 75 => .array .int
  | 76 => .array .int
  | 77 => .int
  | 78 => .long
  | 79 => .array .int
  | 80 => .array .long
  | 81 => .array .int
  | 82 => .array .long
  | 83 => .array .int
  | 84 => .array .int
  | 85 => .array .int
  | 86 => .array .int
  | 87 => .array .int
  | 88 => .int
  | 89 => .int
  | 90 => .int
  | 91 => .long
  | 92 => .array .int
  | 93 => .array .long
  | 94 => .array .boolean
  | 95 => .array .int
  | 96 => .int
  | 97 => .array .int
  | 98 => .array .int
  | 99 => .array .int
  | 100 => .array .long
  | 101 => .array .int
  | 102 => .array .int
  | 103 => .array .int
  | 104 => .array .int
  | 105 => .array .int
  | 106 => .array .int
  | 107 => .array .int
  | 108 => .array .int
  | 109 => .array .int
  | 110 => .int
  | 111 => .int
  | 112 => .array .int
  | 113 => .array .long
  | 114 => .array .int
  | 115 => .array .int
  | 116 => .array .int
  | 117 => .array .int
  | 118 => .array .int
  | 119 => .array .int
  | 120 => .array .int
  | 121 => .array .int
  | 122 => .array .int
  | 123 => .array .int
  | 124 => .array .int
  | 125 => .array .int
  | 126 => .array .int
  | 127 => .array .int
  | 128 => .array .int
  | 129 => .int
  | 130 => .int
  | 131 => .int
  | 132 => .int
  | 133 => .int
  | 134 => .long
  | 135 => .array .int
  | 136 => .array .long
  | 137 => .int
  | 138 => .array .int
  | 139 => .array .long
  | 140 => .int
  | 141 => .int
  | 142 => .long
  | 143 => .int
  | 144 => .int
  | 145 => .long
  | 146 => .array .int
  | 147 => .array .long
  | 148 => .int
  | 149 => .array .byte
  | 150 => .int
  | 151 => .array .int
  | 152 => .int
  | 153 => .int
  | 154 => .array .boolean
  | 155 => .array .boolean
  | 156 => .array .int
  | 157 => .int
  | 158 => .array .int
  | _ => .array .int
def al_TS2 : u_T := fun k => match k with
  | 0 => ("java/lang/String", "value", "[B", true)
  | _ => ("java/lang/String", "coder", "B", true)
def al_YS2 : Nat → FieldType := fun k => match k with
  | 0 => .array .byte
  | _ => .byte
def al_TJ0 : u_T := fun k => match k with
  | 0 => ("java/lang/String", "value", "[B", true)
  | 1 => ("java/lang/String", "coder", "B", true)
  | 2 => ("java/lang/String", "hash", "I", false)
  | _ => ("java/lang/String", "hashIsZero", "Z", false)
def al_YJ0 : Nat → FieldType := fun k => match k with
  | 0 => .array .byte
  | 1 => .byte
  | 2 => .int
  | _ => .boolean
def al_TX11 : u_T := fun k => match k with
  | 0 => ("TableTongue", "text", "[B", true)
  | 1 => ("TableTongue", "strings", "LTableTongue$Strings;", true)
  | 2 => ("TableTongue", "program", "LTableTongue$Program;", true)
  | 3 => ("TableTongue", "tables", "LTableTongue$Tables;", true)
  | 4 => ("TableTongue", "objects", "LTableTongue$Objects;", true)
  | 5 => ("TableTongue", "parser", "LTableTongue$Parser;", true)
  | 6 => ("TableTongue", "gathering", "LTableTongue$Gathering;", true)
  | 7 => ("TableTongue", "machine", "LTableTongue$Machine;", true)
  | 8 => ("TableTongue", "size", "I", false)
  | 9 => ("TableTongue", "compiled", "Z", false)
  | 10 => ("TableTongue", "faultPlace", "I", false)
  | _ => ("TableTongue", "faultLine", "I", false)
def al_YX11 : Nat → FieldType := fun k => match k with
  | 0 => .array .byte
  | 1 => .object "TableTongue$Strings"
  | 2 => .object "TableTongue$Program"
  | 3 => .object "TableTongue$Tables"
  | 4 => .object "TableTongue$Objects"
  | 5 => .object "TableTongue$Parser"
  | 6 => .object "TableTongue$Gathering"
  | 7 => .object "TableTongue$Machine"
  | 8 => .int
  | 9 => .boolean
  | 10 => .int
  | _ => .int
def al_TX8 : u_T := fun k => match k with
  | 0 => ("TableTongue$Strings", "pool", "[B", true)
  | 1 => ("TableTongue$Strings", "starts", "[I", true)
  | 2 => ("TableTongue$Strings", "lengths", "[I", true)
  | 3 => ("TableTongue$Strings", "chain", "[I", true)
  | 4 => ("TableTongue$Strings", "heads", "[I", true)
  | 5 => ("TableTongue$Strings", "headOf", "[I", true)
  | 6 => ("TableTongue$Strings", "rowHead", "I", false)
  | 7 => ("TableTongue$Strings", "states", "[B", true)
  | 8 => ("TableTongue$Strings", "known", "I", false)
  | 9 => ("TableTongue$Strings", "used", "I", false)
  | 10 => ("TableTongue$Strings", "fixed", "I", false)
  | 11 => ("TableTongue$Strings", "textual", "I", false)
  | 12 => ("TableTongue$Strings", "made", "I", false)
  | 13 => ("TableTongue$Strings", "madeBytes", "I", false)
  | 14 => ("TableTongue$Strings", "row", "[B", true)
  | _ => ("TableTongue$Strings", "rowLength", "I", false)
def al_YX8 : Nat → FieldType := fun k => match k with
  | 0 => .array .byte
  | 1 => .array .int
  | 2 => .array .int
  | 3 => .array .int
  | 4 => .array .int
  | 5 => .array .int
  | 6 => .int
  | 7 => .array .byte
  | 8 => .int
  | 9 => .int
  | 10 => .int
  | 11 => .int
  | 12 => .int
  | 13 => .int
  | 14 => .array .byte
  | _ => .int
def al_TX6 : u_T := fun k => match k with
  | 0 => ("TableTongue$Program", "ops", "[I", true)
  | 1 => ("TableTongue$Program", "as", "[I", true)
  | 2 => ("TableTongue$Program", "bs", "[I", true)
  | 3 => ("TableTongue$Program", "lines", "[I", true)
  | 4 => ("TableTongue$Program", "size", "I", false)
  | 5 => ("TableTongue$Program", "wholes", "[J", true)
  | 6 => ("TableTongue$Program", "wholeCount", "I", false)
  | 7 => ("TableTongue$Program", "entries", "[I", true)
  | 8 => ("TableTongue$Program", "params", "[I", true)
  | 9 => ("TableTongue$Program", "locals", "[I", true)
  | 10 => ("TableTongue$Program", "captures", "[I", true)
  | 11 => ("TableTongue$Program", "bodyLine", "[I", true)
  | 12 => ("TableTongue$Program", "dots", "[Z", true)
  | 13 => ("TableTongue$Program", "sources", "[I", true)
  | _ => ("TableTongue$Program", "functions", "I", false)
def al_YX6 : Nat → FieldType := fun k => match k with
  | 0 => .array .int
  | 1 => .array .int
  | 2 => .array .int
  | 3 => .array .int
  | 4 => .int
  | 5 => .array .long
  | 6 => .int
  | 7 => .array .int
  | 8 => .array .int
  | 9 => .array .int
  | 10 => .array .int
  | 11 => .array .int
  | 12 => .array .boolean
  | 13 => .array .int
  | _ => .int
def al_TX9 : u_T := fun k => match k with
  | 0 => ("TableTongue$Tables", "first", "[I", true)
  | 1 => ("TableTongue$Tables", "last", "[I", true)
  | 2 => ("TableTongue$Tables", "length", "[I", true)
  | 3 => ("TableTongue$Tables", "metas", "[I", true)
  | 4 => ("TableTongue$Tables", "keyKinds", "[B", true)
  | 5 => ("TableTongue$Tables", "valueKinds", "[B", true)
  | 6 => ("TableTongue$Tables", "keys", "[J", true)
  | 7 => ("TableTongue$Tables", "values", "[J", true)
  | 8 => ("TableTongue$Tables", "owners", "[I", true)
  | 9 => ("TableTongue$Tables", "after", "[I", true)
  | 10 => ("TableTongue$Tables", "chain", "[I", true)
  | 11 => ("TableTongue$Tables", "heads", "[I", true)
  | 12 => ("TableTongue$Tables", "headOf", "[I", true)
  | 13 => ("TableTongue$Tables", "keyHead", "I", false)
  | 14 => ("TableTongue$Tables", "free", "I", false)
  | 15 => ("TableTongue$Tables", "used", "I", false)
  | _ => ("TableTongue$Tables", "placed", "I", false)
def al_YX9 : Nat → FieldType := fun k => match k with
  | 0 => .array .int
  | 1 => .array .int
  | 2 => .array .int
  | 3 => .array .int
  | 4 => .array .byte
  | 5 => .array .byte
  | 6 => .array .long
  | 7 => .array .long
  | 8 => .array .int
  | 9 => .array .int
  | 10 => .array .int
  | 11 => .array .int
  | 12 => .array .int
  | 13 => .int
  | 14 => .int
  | 15 => .int
  | _ => .int
def al_TX3 : u_T := fun k => match k with
  | 0 => ("TableTongue$Objects", "kinds", "[B", true)
  | 1 => ("TableTongue$Objects", "details", "[I", true)
  | 2 => ("TableTongue$Objects", "firstCells", "[I", true)
  | 3 => ("TableTongue$Objects", "made", "I", false)
  | 4 => ("TableTongue$Objects", "gone", "I", false)
  | 5 => ("TableTongue$Objects", "cells", "[I", false)
  | 6 => ("TableTongue$Objects", "cellsUsed", "I", false)
  | 7 => ("TableTongue$Objects", "cellKinds", "[B", false)
  | 8 => ("TableTongue$Objects", "cellValues", "[J", false)
  | 9 => ("TableTongue$Objects", "cellCount", "I", false)
  | 10 => ("TableTongue$Objects", "parts", "[LTableTongue$Part;", true)
  | _ => ("TableTongue$Objects", "partCount", "I", false)
def al_YX3 : Nat → FieldType := fun k => match k with
  | 0 => .array .byte
  | 1 => .array .int
  | 2 => .array .int
  | 3 => .int
  | 4 => .int
  | 5 => .array .int
  | 6 => .int
  | 7 => .array .byte
  | 8 => .array .long
  | 9 => .int
  | 10 => .array (.object "TableTongue$Part")
  | _ => .int
def al_TX5 : u_T := fun k => match k with
  | 0 => ("TableTongue$Part", "kinds", "[B", false)
  | 1 => ("TableTongue$Part", "values", "[J", false)
  | 2 => ("TableTongue$Part", "top", "I", false)
  | 3 => ("TableTongue$Part", "modes", "[I", true)
  | 4 => ("TableTongue$Part", "functions", "[I", true)
  | 5 => ("TableTongue$Part", "nexts", "[I", true)
  | 6 => ("TableTongue$Part", "bases", "[I", true)
  | 7 => ("TableTongue$Part", "starts", "[I", true)
  | 8 => ("TableTongue$Part", "wants", "[I", true)
  | 9 => ("TableTongue$Part", "lines", "[I", true)
  | 10 => ("TableTongue$Part", "depth", "I", false)
  | 11 => ("TableTongue$Part", "state", "I", false)
  | 12 => ("TableTongue$Part", "number", "I", false)
  | 13 => ("TableTongue$Part", "slot", "I", false)
  | 14 => ("TableTongue$Part", "want", "I", false)
  | _ => ("TableTongue$Part", "resumer", "I", false)
def al_YX5 : Nat → FieldType := fun k => match k with
  | 0 => .array .byte
  | 1 => .array .long
  | 2 => .int
  | 3 => .array .int
  | 4 => .array .int
  | 5 => .array .int
  | 6 => .array .int
  | 7 => .array .int
  | 8 => .array .int
  | 9 => .array .int
  | 10 => .int
  | 11 => .int
  | 12 => .int
  | 13 => .int
  | 14 => .int
  | _ => .int
def al_TX10 : u_T := fun k => match k with
  | 0 => ("TableTongue$Tokens", "text", "[B", true)
  | 1 => ("TableTongue$Tokens", "strings", "LTableTongue$Strings;", true)
  | 2 => ("TableTongue$Tokens", "size", "I", false)
  | 3 => ("TableTongue$Tokens", "end", "I", false)
  | 4 => ("TableTongue$Tokens", "type", "I", false)
  | 5 => ("TableTongue$Tokens", "place", "I", false)
  | 6 => ("TableTongue$Tokens", "line", "I", false)
  | 7 => ("TableTongue$Tokens", "number", "I", false)
  | _ => ("TableTongue$Tokens", "value", "J", false)
def al_YX10 : Nat → FieldType := fun k => match k with
  | 0 => .array .byte
  | 1 => .object "TableTongue$Strings"
  | 2 => .int
  | 3 => .int
  | 4 => .int
  | 5 => .int
  | 6 => .int
  | 7 => .int
  | _ => .long
def al_TX4 : u_T := fun k => match k with
  | 0 => ("TableTongue$Parser", "tokens", "LTableTongue$Tokens;", true)
  | 1 => ("TableTongue$Parser", "program", "LTableTongue$Program;", true)
  | 2 => ("TableTongue$Parser", "strings", "LTableTongue$Strings;", true)
  | 3 => ("TableTongue$Parser", "scopes", "LTableTongue$Scopes;", true)
  | 4 => ("TableTongue$Parser", "refused", "I", false)
  | 5 => ("TableTongue$Parser", "refusedPlace", "I", false)
  | 6 => ("TableTongue$Parser", "refusedLine", "I", false)
  | 7 => ("TableTongue$Parser", "tailOp", "I", false)
  | 8 => ("TableTongue$Parser", "tailIndex", "I", false)
  | 9 => ("TableTongue$Parser", "tailLine", "I", false)
  | 10 => ("TableTongue$Parser", "places", "[I", true)
  | 11 => ("TableTongue$Parser", "placeTop", "I", false)
  | _ => ("TableTongue$Parser", "selfName", "I", true)
def al_YX4 : Nat → FieldType := fun k => match k with
  | 0 => .object "TableTongue$Tokens"
  | 1 => .object "TableTongue$Program"
  | 2 => .object "TableTongue$Strings"
  | 3 => .object "TableTongue$Scopes"
  | 4 => .int
  | 5 => .int
  | 6 => .int
  | 7 => .int
  | 8 => .int
  | 9 => .int
  | 10 => .array .int
  | 11 => .int
  | _ => .int
def al_TX7 : u_T := fun k => match k with
  | 0 => ("TableTongue$Scopes", "program", "LTableTongue$Program;", true)
  | 1 => ("TableTongue$Scopes", "names", "[I", true)
  | 2 => ("TableTongue$Scopes", "slots", "[I", true)
  | 3 => ("TableTongue$Scopes", "active", "I", false)
  | 4 => ("TableTongue$Scopes", "functionAt", "[I", true)
  | 5 => ("TableTongue$Scopes", "firstAt", "[I", true)
  | 6 => ("TableTongue$Scopes", "heightAt", "[I", true)
  | 7 => ("TableTongue$Scopes", "breaksAt", "[I", true)
  | 8 => ("TableTongue$Scopes", "level", "I", false)
  | 9 => ("TableTongue$Scopes", "captured", "[I", true)
  | 10 => ("TableTongue$Scopes", "foundOp", "I", false)
  | _ => ("TableTongue$Scopes", "foundIndex", "I", false)
def al_YX7 : Nat → FieldType := fun k => match k with
  | 0 => .object "TableTongue$Program"
  | 1 => .array .int
  | 2 => .array .int
  | 3 => .int
  | 4 => .array .int
  | 5 => .array .int
  | 6 => .array .int
  | 7 => .array .int
  | 8 => .int
  | 9 => .array .int
  | 10 => .int
  | _ => .int
def al_TX0 : u_T := fun k => match k with
  | 0 => ("TableTongue$Gathering", "strings", "LTableTongue$Strings;", true)
  | 1 => ("TableTongue$Gathering", "tables", "LTableTongue$Tables;", true)
  | 2 => ("TableTongue$Gathering", "objects", "LTableTongue$Objects;", true)
  | 3 => ("TableTongue$Gathering", "reached", "[B", true)
  | 4 => ("TableTongue$Gathering", "weaknesses", "[I", true)
  | 5 => ("TableTongue$Gathering", "grays", "[I", true)
  | 6 => ("TableTongue$Gathering", "grayCount", "I", false)
  | 7 => ("TableTongue$Gathering", "waiting", "[I", true)
  | 8 => ("TableTongue$Gathering", "waitingCount", "I", false)
  | 9 => ("TableTongue$Gathering", "marked", "[B", true)
  | 10 => ("TableTongue$Gathering", "markOrder", "[I", true)
  | 11 => ("TableTongue$Gathering", "marks", "I", false)
  | 12 => ("TableTongue$Gathering", "acts", "[I", true)
  | 13 => ("TableTongue$Gathering", "actCount", "I", false)
  | _ => ("TableTongue$Gathering", "lastActs", "I", false)
def al_YX0 : Nat → FieldType := fun k => match k with
  | 0 => .object "TableTongue$Strings"
  | 1 => .object "TableTongue$Tables"
  | 2 => .object "TableTongue$Objects"
  | 3 => .array .byte
  | 4 => .array .int
  | 5 => .array .int
  | 6 => .int
  | 7 => .array .int
  | 8 => .int
  | 9 => .array .byte
  | 10 => .array .int
  | 11 => .int
  | 12 => .array .int
  | 13 => .int
  | _ => .int
def al_TX2 : u_T := fun k => match k with
  | 0 => ("TableTongue$Machine", "program", "LTableTongue$Program;", true)
  | 1 => ("TableTongue$Machine", "strings", "LTableTongue$Strings;", true)
  | 2 => ("TableTongue$Machine", "tables", "LTableTongue$Tables;", true)
  | 3 => ("TableTongue$Machine", "objects", "LTableTongue$Objects;", true)
  | 4 => ("TableTongue$Machine", "gathering", "LTableTongue$Gathering;", true)
  | 5 => ("TableTongue$Machine", "library", "LTableTongue$Library;", true)
  | 6 => ("TableTongue$Machine", "now", "LTableTongue$Part;", false)
  | 7 => ("TableTongue$Machine", "status", "I", false)
  | 8 => ("TableTongue$Machine", "stepsDone", "J", false)
  | 9 => ("TableTongue$Machine", "left", "I", false)
  | 10 => ("TableTongue$Machine", "nestedParts", "I", false)
  | 11 => ("TableTongue$Machine", "pending", "I", false)
  | 12 => ("TableTongue$Machine", "callStart", "I", false)
  | 13 => ("TableTongue$Machine", "callWant", "I", false)
  | 14 => ("TableTongue$Machine", "callLine", "I", false)
  | 15 => ("TableTongue$Machine", "callId", "I", false)
  | 16 => ("TableTongue$Machine", "at", "I", false)
  | 17 => ("TableTongue$Machine", "errorKind", "I", false)
  | _ => ("TableTongue$Machine", "errorValue", "J", false)
def al_YX2 : Nat → FieldType := fun k => match k with
  | 0 => .object "TableTongue$Program"
  | 1 => .object "TableTongue$Strings"
  | 2 => .object "TableTongue$Tables"
  | 3 => .object "TableTongue$Objects"
  | 4 => .object "TableTongue$Gathering"
  | 5 => .object "TableTongue$Library"
  | 6 => .object "TableTongue$Part"
  | 7 => .int
  | 8 => .long
  | 9 => .int
  | 10 => .int
  | 11 => .int
  | 12 => .int
  | 13 => .int
  | 14 => .int
  | 15 => .int
  | 16 => .int
  | 17 => .int
  | _ => .long
def al_TX1 : u_T := fun k => match k with
  | 0 => ("TableTongue$Library", "strings", "LTableTongue$Strings;", true)
  | 1 => ("TableTongue$Library", "tables", "LTableTongue$Tables;", true)
  | 2 => ("TableTongue$Library", "objects", "LTableTongue$Objects;", true)
  | 3 => ("TableTongue$Library", "gathering", "LTableTongue$Gathering;", true)
  | 4 => ("TableTongue$Library", "names", "[I", true)
  | 5 => ("TableTongue$Library", "keys", "[I", true)
  | 6 => ("TableTongue$Library", "shelves", "[I", true)
  | 7 => ("TableTongue$Library", "packedKey", "I", true)
  | 8 => ("TableTongue$Library", "paper", "[B", true)
  | 9 => ("TableTongue$Library", "printed", "J", false)
  | 10 => ("TableTongue$Library", "part", "LTableTongue$Part;", false)
  | 11 => ("TableTongue$Library", "id", "I", false)
  | 12 => ("TableTongue$Library", "first", "I", false)
  | 13 => ("TableTongue$Library", "given", "I", false)
  | 14 => ("TableTongue$Library", "line", "I", false)
  | _ => ("TableTongue$Library", "from", "I", false)
def al_YX1 : Nat → FieldType := fun k => match k with
  | 0 => .object "TableTongue$Strings"
  | 1 => .object "TableTongue$Tables"
  | 2 => .object "TableTongue$Objects"
  | 3 => .object "TableTongue$Gathering"
  | 4 => .array .int
  | 5 => .array .int
  | 6 => .array .int
  | 7 => .int
  | 8 => .array .byte
  | 9 => .long
  | 10 => .object "TableTongue$Part"
  | 11 => .int
  | 12 => .int
  | 13 => .int
  | 14 => .int
  | _ => .int
def al_cl : List vw_C := [(al_RX12, al_TX12, 160), (al_RJ0, al_TS2, 2), (al_RJ0, al_TJ0, 4), (al_RX11, al_TX11, 12), (al_RX8, al_TX8, 16), (al_RX6, al_TX6, 15), (al_RX9, al_TX9, 17), (al_RX3, al_TX3, 12), (al_RX5, al_TX5, 16), (al_RX10, al_TX10, 9), (al_RX4, al_TX4, 13), (al_RX7, al_TX7, 12), (al_RX0, al_TX0, 15), (al_RX2, al_TX2, 19), (al_RX1, al_TX1, 16)]
def al_tyf : Nat → Nat → FieldType := fun k => match k with
  | 0 => al_YX12
  | 1 => al_YS2
  | 2 => al_YJ0
  | 3 => al_YX11
  | 4 => al_YX8
  | 5 => al_YX6
  | 6 => al_YX9
  | 7 => al_YX3
  | 8 => al_YX5
  | 9 => al_YX10
  | 10 => al_YX4
  | 11 => al_YX7
  | 12 => al_YX0
  | 13 => al_YX2
  | 14 => al_YX1
  | 2000 => fun j => match j with
    | 0 => .object "TableTongue$Strings"
    | _ => .object "and break do else elseif end false for function if in "
  | 2001 => fun j => match j with
    | 0 => .object "TableTongue$Strings"
    | _ => .object "local nil not or repeat return then true until while "
  | 2002 => fun j => match j with
    | 0 => .object "TableTongue$Strings"
    | _ => .object "__index __newindex __call __add __sub __mul __idiv __mod __band __bor __bxor __shl __shr "
  | 2003 => fun j => match j with
    | 0 => .object "TableTongue$Strings"
    | _ => .object "__unm __bnot __concat __len __eq __lt __le __gc __mode "
  | 2004 => fun j => match j with
    | 0 => .object "TableTongue$Parser"
    | _ => .object "self"
  | 2005 => fun j => match j with
    | 0 => .object "TableTongue$Library"
    | _ => .object "print type tostring tonumber next pairs ipairs rawget rawset rawequal rawlen getmetatable "
  | 2006 => fun j => match j with
    | 0 => .object "TableTongue$Library"
    | _ => .object "setmetatable error pcall select collect list.insert list.remove list.concat list.pack "
  | 2007 => fun j => match j with
    | 0 => .object "TableTongue$Library"
    | _ => .object "list.unpack text.sub text.byte text.char text.rep part.new part.go part.stop part.state "
  | 2008 => fun j => match j with
    | 0 => .object "TableTongue$Library"
    | _ => .object "part.running ipairs "
  | 2009 => fun j => match j with
    | 0 => .object "TableTongue$Library"
    | _ => .object "list"
  | 2010 => fun j => match j with
    | 0 => .object "TableTongue$Library"
    | _ => .object "text"
  | 2011 => fun j => match j with
    | 0 => .object "TableTongue$Library"
    | _ => .object "part"
  | 2012 => fun j => match j with
    | 0 => .object "TableTongue$Library"
    | _ => .object "n"
  | 2999 => fun _ => .object "TableTongue$Part"
  | _ => fun _ => .int
def al_dfl : Nat → Nat := fun k => match k with
  | 0 => 8598671120004952744802343632202003015758426573480726932366997923460386159692077450080078432629339148390347322134525782292431735672227007739397982590720711359607375768280440264746480361571888065175108985712464046897484475851627328527302016158891512064221776900916052938570264242502663303306082911129852556363023682265886900632838461412148974242246142618444313183960570815325450768027114828768039664037186323371867286619803654692728601012490092697796692387866178015028403524739678415558067821278306437555156182960761703546499152261034315877438101827747800452756112689654166230412686020466433274778651888412354782314023351709899508600788361154142760659248074534913214074805142645210809515540886702512642928852919426737871881509749364241962223075233317268204052045464314534298568104842600911217338583627934300806368497758836828775411368690392453265239588558328961425620726358232492532613246101880904498508050559330910845547332783908770843814988293048467401107989939117217716131123346663270591245551327764107289237919397707140579666355674246713167952465790308595963470943733470943002747182809151611608351068761761692213257118216175977192938636082697598409625290783387326004330272850486691368597970897679481523999852044552613034843044102430714631887548121089020287557966545917505632816189425846916683027228449479378905746676983200353207861574388089354891140021999959124904633754566254307547568676482086876436067778775089191391925777843089216890551520279261365638552244774359691122261237027125979203194253830832192153232904782806239815699825089379901855837583543493677410342878194885517964480648435036554820029753758336443872717557678309450475107060746610883951813113893287820647136004110019970892787007605621796992433037662756698757298450074704694118755323504386851865925571165506455726622482573652284134564890623844943048718599138124987751259585476427408641932832328641745472436270474166856882491031152827220732682479573881961141413626856538181405397892710472593665013131852296395309512558470146330808290965010704546828070838582776065133165734034890158927294366958270546383124355828240325543143016604109981034810723416306685976648065943375262327613090990047131760260165967665333955160008268834429298077527868013766097185285802896710844331717616508743671064877382203376139419341959020264785268470767504492377066453653510550869197699004508340653886059671412748344669143166068500115277893059367575556437971583253535161591932694766762639059151339588769124845141823552830096381037126254567775907353982160171861052890046973142911470252584791204051770302891646371511887411037620676038130111786240778468037909889283076752630214699942444961125984876197183916402307736999911523194087492304743648589575078649278483737012027314030832857087805164831526700009122480468423969734480418412181619487430492392102519518517717913131338352599074509956554941261517445526417079524538406568753878871748932216680676834130131731347134790013664674969037026608689275547199755151984738912532984504336563266901200350874201432279870212910521832743949276357402403995865221731113432195273346291436951047885762227904100361929463546977827557927181175589533712844189019384506725370868879193211338382859053730019747517416097837363121167397349381969799517261270509018171116235230514546668491967044175649481317990082722238209077465394057888383794535782957842424891854244197078951622578602704977475629523547159464027354624325747212408056193446014606719046008283742624938543806990209432919175544325646045576953856
  | 1 => 55340232221128654848
  | 2 => 55340232221128654848
  | 3 => 2898403142262943758522127678937971034824823100316873335747163601737959296464127892255986937014971491543890205966179805333666205157504899094097865666976943502614504683864064
  | 4 => 151801689980482963764371510039187980287167487323106588767676018520572754675996510168970287776077843371390308398237608933542356553039345107650260049955556780844280331151183292537268379797078136451557074477015464924402859938790335623738701985648797812870672391977092945862554261375327107880720529268915879287472197811405062144
  | 5 => 32145258215588019628459558495001704324759007040617127692560673854896873122373122823692956131002562186951064504564223252074757826924857562365448465933952002668045827483395289424160011700921242015594648898080136923094312487047870345820401133533601507638842958853270898549036794178091585704014528628391936
  | 6 => 6807023201650007916862689451119469248162203786341588625039148897004766531686443123224317037628847319143468354088141057494733209856892016981104685523223940964943060575169210371941409660906473414414539076124962911503894707700799409446226746128264072431550615576288692021918961762304
  | 7 => 305237477091057782321770559267635702383945859740601340189412399018639045948900105305948377866861308982691241081975765827857264508378563618411496685483358495377775310579699476924869406298070686817918623150620294866275541724097525963554816
  | 8 => 64636549958226413656990971002683887627938501910311403522433313944558005329765301544509532540153968668000286197697966517584810966405916380063538197906139170249631889216459035143156096325892568269724177529513193766912
  | 9 => 4562440617622195218641171605700291324893228507248559930579192517899275167208677386505912811317371399778642309573594407310688704721375437998252661319722475525109789955100204877121614011361656832
  | 10 => 305237477091057782321770559267635702383945846053279487322826743092225825705763186867741342202982526736889491756901546040918982009313325427873078432571302369423386161112720017850275445825081765877210687939850122402396583811015399754956800
  | 11 => 64636549958226413656977283680831021042282578395494302648458634259036259649973563966955834714652342635840768459264014403385475039471367590164928944579217892343584565417104264210321839790992787297556441236218339917824
  | 12 => 6807023201650007916861248007888338745718049324064050847721777039162805027007400966541276925046971560069886527815196532995635607799073047113509538268434840040580001501474997388083655271109882902672944573433975650429952002960257384692254694786685223686812400373218582199091236700160
  | 13 => 25164835917856289730927475999919701398386856086915571652699466838971252434076831284503858228079808491410765356855335352400184588416758385578920415520272105762997920320440653216777881390551602814084452214258364233805184500561950127605011092917156641102054822348581124696340158918100870246594732343298973212510548981240433156754801861969527577718087401947924607273076955984941695723649265004794220422148808245248
  | 14 => 305237477091057782321792104784288444521831518835161617196426493207573006526765666506006447236305299844115050635896687756001604412441514225713987869946563627139084345592964506403255141082240604477644723908505208916696967241108523076026368
  | 2000 => 17203366121197754971275412683082601809147785260304121196285505757136855429432806274214515276219241126657297940805892993103304544713234577310603870054673844705784063695809050572676021069380745006012313222066599473884691577443930106152187107858871710930257321488835430417276096051981016652184575727208925977959711263284394376583065500580411291540713288881125696325722917691922482848569547335726966764565125689217341865166062530398670794727845317910435920132782605084151069151165106781959646964047530745263917980033519232444736858367139232598549071444070128566893914818474108855331383128151525507405050401880006838089828222816955432301235891514419227951529250209319906381183842167437377429038658619203882413835482149023063479905775939171687932523019487843322781569366563726718728416409620366596946123512733222322276524856733390044171287684597752945451026158873091409751050868069179215503104485100907263135125499291373155637116726772072196563290395728784036634942801937732614123774672942765353498827462694439184568213007996860812413962344103634747619007408012037785440119523656665762017999592824324477570967294776015477176292764683184803754150764939837537
  | 2001 => 3642954477083228850209881617128900602266882612939787732040517923473411901913215119842967460374004511672183067057748305058952716381117628806846708053994408864072463811734719958890274135339740867464764073474804060241245002016943067059635101511167506858280387210808724615227180890504182193241782465659327902326700019466206934839465565056863695565169776471501112654258571550927929914923880986966401060782158410223903606389278586833175356171098876896544797359755902801182830683190356053170786738491265075772361954344845699914262081961722007338093484879852680355075938643062860370827721265102656484104074342250769983582889697698976393542817444388655491776183401862927328549496837657966359538724305844636225057613265072864468548927040236822932914612266673065457454146808139325028937142443379082491995153009097596031929831183019188565807972044354235592448334501441858844217265912068547424803634606963102009537044297608486416001555868051376323401179755819560362708466491692978822387997105893447664178550515399263330580815998786988213007688912370482006393203424574786002396112402344986844449424450728652563125771354892662967485376034242668
  | 2002 => 6779575558313389339148914971507928717284090355661131407533748008391311618771341402060672434564873250855379520591654765987724396094305708161147894421164252029532837466379296668775124074009967264273949312143720279921406623748994909993997920601388085015681339208522633976510061047692575013182877755718024878089404936967692992940280229998901714312423208912178477892434197238321107435106934710263657111839319538583909970907666310165559751865671632988711095541530333612404148547818706697716110194466138254567173881048897954586443111014580652919215867179530787247401212497366559125571831098290108835744881273737883504365690089651734665665514765147623441707846655801036126691170651647280814590392990221654531390071712534281154545145089918179690820120368387622456856432178386973760976200646406329378029214618934935918573593553171448676793839941734038301959403042108780221818807357754491526395535390862820544851448750677953890661044132433176870551043710150547242914729228571359768564450742703088936050490062476777505595107509424044613242152780715570149862102665646735838549147405968499107468132662170041143370209441005243432773874925664873692163022192107351384094201720630766115129301806169008578919492017098291189908937180199122032634120452352067974812041947406721249423291381960675147639347485034693081465724415129159158918435502568179327026210769834629182990725575530779136020458727481909129993721462458993360966704706832414145385629624339719894835693979526238820112623102344530801503218946096763607141704518865677702272758911833549867264266120797772849153615685862254634425523818015136022579463280238093107541940993654778032609938127049712601854370755707298557132482257802094313779503207118176279465118371182793426571920311499569566404079040372258060157727281535873115928980122150861125955707834887686175620985357959499754140114671990434626054016871583903608443784251572071523183398283152108866909293614551929978975
  | 2003 => 81240599563279452776754591456055632956736351815098079169458148387115327518138019476204636337744248930306225711838564663111131677899782573214948406955847911981115093582350929903170485925172861895466590847957406619696133998251907752255596093140749828040635812240531957068731381550130518956865270514221694315410811937509547230687195591065612195365874171301897485244340412669429294485067168947228192693429471755595071587791653690959384181514249061702933981942759634760621240859271545447511153778997196849343941553457898253089210327959946062437725307583419121310536446454726811688787989807588204823733329474434022889872310434959513696227247930221994616611227847288572022081968467790047855300018161399772169573844380257754679090188980051233250060830790618840403694250648366268950001239184509174455193389173321075479601766424060505384950605272431434569523920114395552903163572821221842000661218585008009955076774777086615183361713366100559955629740026295959549980088986070010871471878687511152775798261596471682156079458586136679659645030302633099219637652332526354034283128606454169073190189193654898714533770408297029711790960064763062095119545197757337003929886351867112325215
  | 2004 => 10741853750192833043190047304215825403826586065388470140816532177011
  | 2005 => 32015640384661411702187838246728669136492161798620487667202960046433176924261148691929961202127001836899264262349755551590736585471332355628181485184351068181760011270956939825501793250872710940684281322992417252521789387766545052991716025888178486257446457553573412084119730940758896994966785422473498246977191579918780895209105722032373989891771250673559914558505206004826167229756479204196368462935014183040222259836764320821382448473954345499887463970858434211548997885093055404078860683284303557743903243684796893069559476836459586127847945932531552793596172185062544704942231566288752001659113267029552652251551579486368338741446825744214100060683380232042815296998833389404345193850012632229253196824430883465317125760907090330868986729209729314860833082125683684429168363904682509893111960925351209783250766801655570081113508112619740356415166901877929359320148147108193977724376031624314002593274054339901722126207733628022778186104708514933864525453877330756602289092059039714773154066072410449346938339750641738223028494896195241178709400418146549983334424974190370718121656688980362517830874893131115196113051069360945982323284696195532436161791142457481187125687064639863565213425777771034828452370448609657210091049204341707995847077676606877907869655167665494833284527839692704599230893790004472562932070875067434854299174400130149748997977803741570894906656778522804825716483928313951374991651897045089321084182383965194514182469583359188568777956080691477693827590158891198389892328053361639186277524499965878684807582153415346459992644655183311437591734523763383192608950338968881759700604123689335024009074035535536966713495584564486808935535003867726110478244937559449843341128374769754603948436628689850476363796620995795283916280564562890935437916004993566580241580274837928107573724205263183980835983235451574340524410206682623846244306662125680104278877583058691850412226149384093623908244752893016966955120
  | 2006 => 64375919001462099428053041103611442316144593643932787403607419168762381453624993359132593350401349915240847007927825686506498804988142144710496775865012489981438222243656497523182538351365111919979187643948536488873560732006692875033110962455002760992504567640373807007360452832284072823514398354288245384784556134854698410672910385661997963472640710521237452352296488650832442582509323389669714061495414408526618181245203340587322210866155002226396364242729623017822027319543145704850002400971277513878715507824691394850081001937642456081901258581765330639478309850404673741188987747403499940116371843047512572998031115429600926440043024726639639276663159551557513040291678932974647695863910268147708114415527536797440937062224460896113392654902423568603588873823824818490169393597630576604956919875418048062877907711798084592584531193129010482891984483131243728025323869310236451530105209341051563283541693863629807205675313858576105253557852909317548206776156701777572682803442929996551969479272438301615973851952122245188249174592148463091105884891287086352949911346368108473318650955284764364406271691047258149140090198902472952007243692191112685794903245075963708690637113043312520479566347188661858816110151567399966785960545979402882709325166242769963660810807215517193867091919592262266092612190162651536072500000953101941337507272142655429651191612862552999267920791835795346396539745639862951966369374028262087246669913764872065627778922975643342789044133552508042474871753226666241633046587642228139811254312512853003187794082153378083323794060848005075155157074775274297342154356027028464461913799964914569486422199422510741165551688468724717582422730966062978295087309898205940707463264333855972646422274056230678321814017065521342362547789159043326094379981911700093887077452310899540948034678625109930659847954059582909290905715
  | 2007 => 1435630966572852221178900160546329578345646795358144080836952027195148951604308313504635396527108190331489257416618996931536440429384111555937010993280810643606776819768449113934231690522825625242360360085467263401402552179220626831210692559113008981902402728668741800645201804353329775045575369368838300009406462207056197454874754166418409703637477328395177937235385135322697958674837654579973571092841249542606249823669763187571473197155798507671516048065323588679432393833438188206524466827138968515159474546067619019223377669827080674741485067186915434811379223732299224893411605129591246052514915863084476062229736532098399201615608630243655699342189344893286433497766643647117729186767221093322823209537450889644764079486958738271582953800211587778986588642780292995448557283229950943833212561224189431198103633332025630198293580775825299717071680702321871652900144350102638726332735915500590407828946648512669748705583527964718151496395930279862007970313883890453682038215521522920624282006048558154599620267836346997639826916304368510198740443851047083819253203586952109126997971862673274766525315091802816691947980948266289491976285080697151417106925275361280055542124406671241378339410621002200159157551542331699538436402940657962191575009994142127799253474966286384903031958296513323245076755650233123554704658212317502815542709092694445940475468224854570539587429332669772954863080370871384401895963585020957357800039318725752963369710516342985342828158915244513263644651762412698118854888020060689939486448237686999846095541574093546658441921532692202844764008043136353493364580900271165699260593438464999873322045520163162118543466599876431707553472162541357561713002778564525212330178277016380675093278178711815165650378325699358730155383239688819616296767499973185961467816000827655365572936359881015965330233569458140707695995071022226332487908173161595629973624647057516
  | 2008 => 206150335839078725475914765067533384848978760082643003075661719336690464872259332657502338023125039198571167834750726618246950380331219453810174625214575128865765937109468448103146998785426578972501342791753647072873884120099629689820686212960520573458444381043972272222769047113198116848921226741932335401270834521167531763230896441737309031862409924829394787921390825949418174151258682916728339503657722056802416
  | 2009 => 12216225833552633656961055797003601170653108169913532168386008580204
  | 2010 => 12216225833552633656961167300729593823768815829615429478714957627508
  | 2011 => 12216225833552633656961033496258402640029966596416327657067340890224
  | 2012 => 110
  | 3000 => 54
  | 3001 => 53
  | 3002 => 89
  | 3003 => 55
  | 3004 => 4
  | 3005 => 90
  | 3006 => 86
  | 3007 => 88
  | 3008 => 20
  | 3009 => 4
  | 3010 => 4
  | 3011 => 4
  | 3012 => 1
  | 4000 => 38
  | 4001 => 44
  | 4002 => 46
  | 4003 => 48
  | 4004 => 41
  | 4005 => 41
  | 4006 => 47
  | 4007 => 49
  | 4008 => 51
  | 4009 => 53
  | 4010 => 59
  | 4011 => 61
  | 4012 => 63
  | 5000 => 13
  | _ => 0
def al_yX8_put : MethodName := ⟨al_RX8, "put", "(I)V"⟩
def al_yJ0_charAt_5068e : MethodName := ⟨al_RJ0, "charAt", "(I)C"⟩
def al_yJ0_isLatin1_aae02 : MethodName := ⟨al_RJ0, "isLatin1", "()Z"⟩
def al_yJ1_charAt_3b067 : MethodName := ⟨al_RJ1, "charAt", "([BI)C"⟩
def al_yJ0_checkIndex_df160 : MethodName := ⟨al_RJ0, "checkIndex", "(II)V"⟩
def al_yJ3_checkIndex_8e157 : MethodName := ⟨al_RJ3, "checkIndex", "(IILjava/util/function/BiFunction;)I"⟩
def al_yJ0_length_8abf5 : MethodName := ⟨al_RJ0, "length", "()I"⟩
def al_yJ0_coder_7d493 : MethodName := ⟨al_RJ0, "coder", "()B"⟩
def al_yX8_find : MethodName := ⟨al_RX8, "find", "()I"⟩
def al_yX8_add : MethodName := ⟨al_RX8, "add", "()I"⟩
def al_yX8_begin : MethodName := ⟨al_RX8, "begin", "()V"⟩
def al_yX8_keepLatent : MethodName := ⟨al_RX8, "keepLatent", "()I"⟩
def al_yX8_keepFixed : MethodName := ⟨al_RX8, "keepFixed", "()I"⟩
def al_yX8_putWords : MethodName := ⟨al_RX8, "putWords", "(Ljava/lang/String;)V"⟩
def al_yX1_latent : MethodName := ⟨al_RX1, "latent", "(Ljava/lang/String;)I"⟩
def al_yX1_fixed : MethodName := ⟨al_RX1, "fixed", "(Ljava/lang/String;)I"⟩
def al_yX12_init : MethodName := ⟨al_RX12, "<init>", "()V"⟩
def al_yX12_internBuilt : MethodName := ⟨al_RX12, "internBuilt", "()V"⟩
def al_yX12_internTypes : MethodName := ⟨al_RX12, "internTypes", "()V"⟩
def al_yX12_internNames : MethodName := ⟨al_RX12, "internNames", "()V"⟩
def al_yX12_hidden : MethodName := ⟨al_RX12, "hidden", "(JJI)I"⟩
def al_yX12_word : MethodName := ⟨al_RX12, "word", "(J)V"⟩
def al_yX12_intern : MethodName := ⟨al_RX12, "intern", "(I)I"⟩
def al_yX12_hashOf : MethodName := ⟨al_RX12, "hashOf", "(I)I"⟩
def al_yX12_compile : MethodName := ⟨al_RX12, "compile", "()I"⟩
def al_yX12_forgetFrom : MethodName := ⟨al_RX12, "forgetFrom", "(II)V"⟩
def al_yX12_readTokens : MethodName := ⟨al_RX12, "readTokens", "()V"⟩
def al_yX12_skip : MethodName := ⟨al_RX12, "skip", "(I)I"⟩
def al_yX12_at : MethodName := ⟨al_RX12, "at", "(I)I"⟩
def al_yX12_readText : MethodName := ⟨al_RX12, "readText", "()Z"⟩
def al_yX12_emit : MethodName := ⟨al_RX12, "emit", "(IIII)I"⟩
def al_yX12_later : MethodName := ⟨al_RX12, "later", "(IIII)V"⟩
def al_yX12_goOn : MethodName := ⟨al_RX12, "goOn", "(IIII)Z"⟩
def al_yX12_readBlock : MethodName := ⟨al_RX12, "readBlock", "()Z"⟩
def al_yX12_isWord : MethodName := ⟨al_RX12, "isWord", "(I)Z"⟩
def al_yX12_beginsStatement : MethodName := ⟨al_RX12, "beginsStatement", "()Z"⟩
def al_yX12_isSign : MethodName := ⟨al_RX12, "isSign", "(I)Z"⟩
def al_yX12_goOnStatement : MethodName := ⟨al_RX12, "goOnStatement", "(IIII)Z"⟩
def al_yX12_reload : MethodName := ⟨al_RX12, "reload", "()V"⟩
def al_yX12_fill : MethodName := ⟨al_RX12, "fill", "(IIIJ)V"⟩
def al_yX12_set : MethodName := ⟨al_RX12, "set", "(IIJIJ)Z"⟩
def al_yX12_placeOf : MethodName := ⟨al_RX12, "placeOf", "(IIJ)I"⟩
def al_yX12_keyHash : MethodName := ⟨al_RX12, "keyHash", "(IIJ)I"⟩
def al_yX12_object : MethodName := ⟨al_RX12, "object", "(I)I"⟩
def al_yX12_how : MethodName := ⟨al_RX12, "how", "(III)V"⟩
def al_yX12_openFrame : MethodName := ⟨al_RX12, "openFrame", "(II)V"⟩
def al_yX12_forget : MethodName := ⟨al_RX12, "forget", "()V"⟩
def al_yX11_init : MethodName := ⟨al_RX11, "<init>", "()V"⟩
def al_yX11_compile : MethodName := ⟨al_RX11, "compile", "()I"⟩
def al_yX11_forget : MethodName := ⟨al_RX11, "forget", "()V"⟩
def al_yX8_init : MethodName := ⟨al_RX8, "<init>", "()V"⟩
def al_yX8_keepNames : MethodName := ⟨al_RX8, "keepNames", "(Ljava/lang/String;)V"⟩
def al_yX8_dropText : MethodName := ⟨al_RX8, "dropText", "()V"⟩
def al_yX8_dropMade : MethodName := ⟨al_RX8, "dropMade", "()V"⟩
def al_yX8_cutTo : MethodName := ⟨al_RX8, "cutTo", "(I)V"⟩
def al_yX6_init : MethodName := ⟨al_RX6, "<init>", "()V"⟩
def al_yX6_clear : MethodName := ⟨al_RX6, "clear", "()V"⟩
def al_yX6_addFunction : MethodName := ⟨al_RX6, "addFunction", "(I)I"⟩
def al_yX6_emit : MethodName := ⟨al_RX6, "emit", "(IIII)I"⟩
def al_yX9_init : MethodName := ⟨al_RX9, "<init>", "()V"⟩
def al_yX9_clear : MethodName := ⟨al_RX9, "clear", "()V"⟩
def al_yX9_open : MethodName := ⟨al_RX9, "open", "(I)V"⟩
def al_yX9_find : MethodName := ⟨al_RX9, "find", "(IIJ)I"⟩
def al_yX9_put : MethodName := ⟨al_RX9, "put", "(IIJIJ)Z"⟩
def al_yX9_add : MethodName := ⟨al_RX9, "add", "(IIJ)I"⟩
def al_yX3_init : MethodName := ⟨al_RX3, "<init>", "()V"⟩
def al_yX3_clear : MethodName := ⟨al_RX3, "clear", "()V"⟩
def al_yX3_make : MethodName := ⟨al_RX3, "make", "(I)I"⟩
def al_yX5_init : MethodName := ⟨al_RX5, "<init>", "()V"⟩
def al_yX5_open : MethodName := ⟨al_RX5, "open", "(II)V"⟩
def al_yX5_enter : MethodName := ⟨al_RX5, "enter", "(IIIIIII)V"⟩
def al_yX10_init : MethodName := ⟨al_RX10, "<init>", "([BLTableTongue$Strings;)V"⟩
def al_yX10_open : MethodName := ⟨al_RX10, "open", "(I)V"⟩
def al_yX10_begin : MethodName := ⟨al_RX10, "begin", "()I"⟩
def al_yX10_behindBlanks : MethodName := ⟨al_RX10, "behindBlanks", "(I)I"⟩
def al_yX4_init : MethodName := ⟨al_RX4, "<init>", "(LTableTongue$Tokens;LTableTongue$Program;LTableTongue$Strings;)V"⟩
def al_yX4_judge : MethodName := ⟨al_RX4, "judge", "(I)I"⟩
def al_yX4_next : MethodName := ⟨al_RX4, "next", "()V"⟩
def al_yX4_emit : MethodName := ⟨al_RX4, "emit", "(IIII)I"⟩
def al_yX4_startsStatement : MethodName := ⟨al_RX4, "startsStatement", "()Z"⟩
def al_yX4_block : MethodName := ⟨al_RX4, "block", "(I)V"⟩
def al_yX7_init : MethodName := ⟨al_RX7, "<init>", "(LTableTongue$Program;)V"⟩
def al_yX7_clear : MethodName := ⟨al_RX7, "clear", "()V"⟩
def al_yX7_enter : MethodName := ⟨al_RX7, "enter", "(I)V"⟩
def al_yX7_height : MethodName := ⟨al_RX7, "height", "()I"⟩
def al_yX0_init : MethodName := ⟨al_RX0, "<init>", "(LTableTongue$Strings;LTableTongue$Tables;LTableTongue$Objects;)V"⟩
def al_yX0_clear : MethodName := ⟨al_RX0, "clear", "()V"⟩
def al_yX2_init : MethodName := ⟨al_RX2, "<init>", "(LTableTongue$Program;LTableTongue$Strings;LTableTongue$Tables;LTableTongue$Objects;LTableTongue$Gathering;)V"⟩
def al_yX2_reset : MethodName := ⟨al_RX2, "reset", "()V"⟩
def al_yX1_init : MethodName := ⟨al_RX1, "<init>", "(LTableTongue$Strings;LTableTongue$Tables;LTableTongue$Objects;LTableTongue$Gathering;)V"⟩
def al_yX1_keepNames : MethodName := ⟨al_RX1, "keepNames", "(Ljava/lang/String;I)I"⟩
def al_yX1_furnish : MethodName := ⟨al_RX1, "furnish", "()V"⟩
def al_yX1_newTable : MethodName := ⟨al_RX1, "newTable", "()I"⟩
def al_yJ0_indexOf_0f7a4 : MethodName := ⟨al_RJ0, "indexOf", "(I)I"⟩
def al_yJ0_indexOf_7cf53 : MethodName := ⟨al_RJ0, "indexOf", "(II)I"⟩
def al_yJ0_substring_b52d3 : MethodName := ⟨al_RJ0, "substring", "(I)Ljava/lang/String;"⟩
def al_yJ0_substring_37a41 : MethodName := ⟨al_RJ0, "substring", "(II)Ljava/lang/String;"⟩
def al_yJ0_init_031fb : MethodName := ⟨al_RJ0, "<init>", "([BB)V"⟩
def al_yJ0_checkBoundsBeginEnd_23922 : MethodName := ⟨al_RJ0, "checkBoundsBeginEnd", "(III)V"⟩
def al_yJ1_canEncode_9a6ad : MethodName := ⟨al_RJ1, "canEncode", "(I)Z"⟩
def al_yJ1_indexOf_4cfef : MethodName := ⟨al_RJ1, "indexOf", "([BIII)I"⟩
def al_yJ1_indexOfChar_4cfef : MethodName := ⟨al_RJ1, "indexOfChar", "([BIII)I"⟩
def al_yJ1_newString_b4f7a : MethodName := ⟨al_RJ1, "newString", "([BII)Ljava/lang/String;"⟩
def al_yJ3_checkFromToIndex_8c36e : MethodName := ⟨al_RJ3, "checkFromToIndex", "(IIILjava/util/function/BiFunction;)I"⟩
def al_yJ7_fill_53178 : MethodName := ⟨al_RJ7, "fill", "([II)V"⟩
def al_yJ7_fill_031fb : MethodName := ⟨al_RJ7, "fill", "([BB)V"⟩
def al_yJ7_checkLength_df160 : MethodName := ⟨al_RJ7, "checkLength", "(II)V"⟩
def al_yJ7_copyOfRange_39247 : MethodName := ⟨al_RJ7, "copyOfRange", "([BII)[B"⟩
def al_yJ7_copyOfRangeByte_39247 : MethodName := ⟨al_RJ7, "copyOfRangeByte", "([BII)[B"⟩
def al_mX8_put : ev_MeK := (al_yX8_put, prog_10_method_10_code, 2, none, [[((0, .aload_n 0, 1, 0, 0, 0, 0), 5, 0), ((1, .getfield 63, 3, 4, 15, 0, 0), 50, 0), ((4, .aload_n 0, 1, 0, 0, 0, 0), 5, 0), ((5, .getfield 35, 3, 4, 14, 20, 1), 50, 0), ((8, .arraylength, 1, 0, 0, 0, 0), 58, 0), ((9, .if_icmp .ge 24, 3, 33, 0, 0, 0), 47, 0), ((12, .aload_n 0, 1, 0, 0, 0, 0), 5, 0), ((13, .getfield 35, 3, 4, 14, 20, 1), 50, 0)],
  [((16, .aload_n 0, 1, 0, 0, 0, 0), 5, 0), ((17, .getfield 63, 3, 4, 15, 0, 0), 50, 0), ((20, .iload_n 1, 1, 0, 0, 0, 0), 1, 1), ((21, .i2b, 1, 0, 0, 0, 0), 24, 0), ((22, .bastore, 1, 0, 0, 0, 0), 55, 0), ((23, .aload_n 0, 1, 0, 0, 0, 0), 5, 0), ((24, .dup, 1, 0, 0, 0, 0), 35, 0), ((25, .getfield 63, 3, 4, 15, 0, 0), 50, 0), ((28, .iconst 1, 1, 1, 0, 0, 0), 12, 0), ((29, .iadd, 1, 0, 0, 0, 0), 16, 0), ((30, .putfield 63, 3, 4, 15, 0, 0), 51, 0)],
  [((33, .return_, 1, 0, 0, 0, 0), 1000, 0)]])
def al_mJ0_charAt_5068e : ev_MeK := (al_yJ0_charAt_5068e, prog_28_method_56_code, 2, (some .char), [[((0, .aload_n 0, 1, 0, 0, 0, 0), 59, 0), ((1, .invokevirtual 492, 3, 2, 1, 1, 2), 59, 0), ((4, .ifCond .eq 12, 3, 16, 0, 0, 0), 38, 0), ((7, .aload_n 0, 1, 0, 0, 0, 0), 59, 0), ((8, .getfield 9, 3, 1, 0, 20, 3), 59, 0), ((11, .iload_n 1, 1, 0, 0, 0, 0), 1, 1), ((12, .invokestatic 495, 3, 3, 2, 0, 4), 57, 0), ((15, .ireturn, 1, 0, 0, 0, 0), 1000, 0)],
  [((16, .aload_n 0, 1, 0, 0, 0, 0), 59, 0), ((17, .getfield 9, 3, 1, 0, 20, 3), 59, 0), ((20, .iload_n 1, 1, 0, 0, 0, 0), 1, 1), ((24, .ireturn, 1, 0, 0, 0, 0), 1000, 0)]])
def al_mJ0_isLatin1_aae02 : ev_MeK := (al_yJ0_isLatin1_aae02, prog_28_method_154_code, 1, (some .boolean), [[((0, .getstatic 38, 3, 1, 0, 0, 5), 59, 0), ((3, .ifCond .eq 14, 3, 17, 0, 0, 0), 38, 0), ((6, .aload_n 0, 1, 0, 0, 0, 0), 59, 0), ((7, .getfield 15, 3, 1, 1, 1, 6), 59, 0), ((10, .ifCond .ne 7, 3, 17, 0, 0, 0), 39, 0), ((13, .iconst 1, 1, 1, 0, 0, 0), 12, 0), ((14, .goto 4, 3, 18, 0, 0, 0), 37, 0)],
  [((17, .iconst 0, 1, 0, 0, 0, 0), 12, 0), ((18, .ireturn, 1, 0, 0, 0, 0), 1000, 0)]])
def al_mJ1_charAt_3b067 : ev_MeK := (al_yJ1_charAt_3b067, prog_30_method_2_code, 2, (some .char), [[((0, .iload_n 1, 1, 0, 0, 0, 0), 1, 1), ((1, .aload_n 0, 1, 0, 0, 0, 0), 59, 0), ((2, .arraylength, 1, 0, 0, 0, 0), 59, 0), ((3, .invokestatic 9, 3, 4, 2, 0, 7), 57, 0), ((6, .aload_n 0, 1, 0, 0, 0, 0), 59, 0), ((7, .iload_n 1, 1, 0, 0, 0, 0), 1, 1), ((8, .baload, 1, 0, 0, 0, 0), 59, 0), ((9, .sipush 255, 3, 255, 0, 0, 0), 14, 0), ((12, .iand, 1, 0, 0, 0, 0), 19, 0), ((13, .i2c, 1, 0, 0, 0, 0), 25, 0), ((14, .ireturn, 1, 0, 0, 0, 0), 1000, 0)]])
def al_mJ0_checkIndex_df160 : ev_MeK := (al_yJ0_checkIndex_df160, prog_28_method_155_code, 2, none, [[((0, .iload_n 0, 1, 0, 0, 0, 0), 1, 0), ((1, .iload_n 1, 1, 0, 0, 0, 0), 1, 1), ((2, .getstatic 1053, 3, 129127208515966861312, 0, 0, 8), 59, 0), ((5, .invokestatic 1059, 3, 5, 3, 0, 9), 57, 0), ((8, .pop, 1, 0, 0, 0, 0), 58, 0), ((9, .return_, 1, 0, 0, 0, 0), 1000, 0)]])
def al_mJ3_checkIndex_8e157 : ev_MeK := (al_yJ3_checkIndex_8e157, prog_36_method_11_code, 3, (some .int), [[((0, .iload_n 0, 1, 0, 0, 0, 0), 1, 0), ((1, .ifCond .lt 8, 3, 9, 0, 0, 0), 40, 0), ((4, .iload_n 0, 1, 0, 0, 0, 0), 1, 0), ((5, .iload_n 1, 1, 0, 0, 0, 0), 1, 1), ((6, .if_icmp .lt 10, 3, 16, 0, 0, 0), 46, 0), ((9, .aload_n 2, 1, 0, 0, 0, 0), 59, 2), ((10, .iload_n 0, 1, 0, 0, 0, 0), 1, 0), ((11, .iload_n 1, 1, 0, 0, 0, 0), 1, 1)],
  [((16, .iload_n 0, 1, 0, 0, 0, 0), 1, 0), ((17, .ireturn, 1, 0, 0, 0, 0), 1000, 0)]])
def al_mJ0_length_8abf5 : ev_MeK := (al_yJ0_length_8abf5, prog_28_method_54_code, 1, (some .int), [[((0, .aload_n 0, 1, 0, 0, 0, 0), 59, 0), ((1, .getfield 9, 3, 1, 0, 20, 3), 59, 0), ((4, .arraylength, 1, 0, 0, 0, 0), 59, 0), ((5, .aload_n 0, 1, 0, 0, 0, 0), 59, 0), ((6, .invokevirtual 335, 3, 7, 1, 1, 10), 59, 0), ((9, .ishr, 1, 0, 0, 0, 0), 59, 0), ((10, .ireturn, 1, 0, 0, 0, 0), 1000, 0)]])
def al_mJ0_coder_7d493 : ev_MeK := (al_yJ0_coder_7d493, prog_28_method_152_code, 1, (some .byte), [[((0, .getstatic 38, 3, 1, 0, 0, 5), 59, 0), ((3, .ifCond .eq 10, 3, 13, 0, 0, 0), 38, 0), ((6, .aload_n 0, 1, 0, 0, 0, 0), 59, 0), ((7, .getfield 15, 3, 1, 1, 1, 6), 59, 0), ((10, .goto 4, 3, 14, 0, 0, 0), 37, 0), ((13, .iconst 1, 1, 1, 0, 0, 0), 12, 0), ((14, .ireturn, 1, 0, 0, 0, 0), 1000, 0)]])
def al_mX8_find : ev_MeK := (al_yX8_find, prog_10_method_23_code, 4, (some .int), [[((0, .aload_n 0, 1, 0, 0, 0, 0), 5, 0), ((1, .getfield 63, 3, 4, 15, 0, 0), 50, 0), ((4, .istore_n 1, 1, 0, 0, 0, 0), 7, 1), ((5, .iconst 0, 1, 0, 0, 0, 0), 12, 0), ((6, .istore_n 2, 1, 0, 0, 0, 0), 7, 2), ((7, .iload_n 2, 1, 0, 0, 0, 0), 1, 2), ((8, .aload_n 0, 1, 0, 0, 0, 0), 5, 0), ((9, .getfield 63, 3, 4, 15, 0, 0), 50, 0), ((12, .if_icmp .ge 21, 3, 33, 0, 0, 0), 47, 0), ((15, .iload_n 1, 1, 0, 0, 0, 0), 1, 1)],
  [((16, .bipush 31, 2, 31, 0, 0, 0), 13, 0), ((18, .imul, 1, 0, 0, 0, 0), 18, 0), ((19, .aload_n 0, 1, 0, 0, 0, 0), 5, 0), ((20, .getfield 35, 3, 4, 14, 20, 1), 50, 0), ((23, .iload_n 2, 1, 0, 0, 0, 0), 1, 2), ((24, .baload, 1, 0, 0, 0, 0), 54, 0), ((25, .iadd, 1, 0, 0, 0, 0), 16, 0), ((26, .istore_n 1, 1, 0, 0, 0, 0), 7, 1), ((27, .iinc 2 1, 3, 1, 0, 0, 0), 36, 2), ((30, .goto (-23), 3, 7, 0, 0, 0), 37, 0)],
  [((33, .aload_n 0, 1, 0, 0, 0, 0), 5, 0), ((34, .iload_n 1, 1, 0, 0, 0, 0), 1, 1), ((35, .iload_n 1, 1, 0, 0, 0, 0), 1, 1), ((36, .bipush 10, 2, 10, 0, 0, 0), 13, 0), ((38, .iushr, 1, 0, 0, 0, 0), 22, 0), ((39, .ixor, 1, 0, 0, 0, 0), 21, 0), ((40, .iload_n 1, 1, 0, 0, 0, 0), 1, 1), ((41, .bipush 20, 2, 20, 0, 0, 0), 13, 0), ((43, .iushr, 1, 0, 0, 0, 0), 22, 0), ((44, .ixor, 1, 0, 0, 0, 0), 21, 0), ((45, .sipush 1023, 3, 1023, 0, 0, 0), 14, 0)],
  [((48, .iand, 1, 0, 0, 0, 0), 19, 0), ((49, .putfield 126, 3, 4, 6, 0, 11), 51, 0), ((52, .aload_n 0, 1, 0, 0, 0, 0), 5, 0), ((53, .getfield 26, 3, 4, 4, 20, 12), 50, 0), ((56, .aload_n 0, 1, 0, 0, 0, 0), 5, 0), ((57, .getfield 126, 3, 4, 6, 0, 11), 50, 0), ((60, .iaload, 1, 0, 0, 0, 0), 52, 0), ((61, .iconst 1, 1, 1, 0, 0, 0), 12, 0), ((62, .isub, 1, 0, 0, 0, 0), 17, 0), ((63, .istore_n 2, 1, 0, 0, 0, 0), 7, 2)],
  [((64, .iload_n 2, 1, 0, 0, 0, 0), 1, 2), ((65, .ifCond .lt 84, 3, 149, 0, 0, 0), 40, 0), ((68, .aload_n 0, 1, 0, 0, 0, 0), 5, 0), ((69, .getfield 20, 3, 4, 2, 20, 13), 50, 0), ((72, .iload_n 2, 1, 0, 0, 0, 0), 1, 2), ((73, .iaload, 1, 0, 0, 0, 0), 52, 0), ((74, .aload_n 0, 1, 0, 0, 0, 0), 5, 0), ((75, .getfield 63, 3, 4, 15, 0, 0), 50, 0), ((78, .if_icmp .ne 7, 3, 85, 0, 0, 0), 45, 0)],
  [((81, .iconst 0, 1, 0, 0, 0, 0), 12, 0), ((82, .goto 4, 3, 86, 0, 0, 0), 37, 0), ((85, .iconst (-1), 1, 4294967295, 0, 0, 0), 12, 0), ((86, .istore_n 3, 1, 0, 0, 0, 0), 7, 3), ((87, .iload_n 3, 1, 0, 0, 0, 0), 1, 3), ((88, .ifCond .lt 39, 3, 127, 0, 0, 0), 40, 0), ((91, .iload_n 3, 1, 0, 0, 0, 0), 1, 3), ((92, .aload_n 0, 1, 0, 0, 0, 0), 5, 0), ((93, .getfield 63, 3, 4, 15, 0, 0), 50, 0)],
  [((96, .if_icmp .ge 31, 3, 127, 0, 0, 0), 47, 0), ((99, .aload_n 0, 1, 0, 0, 0, 0), 5, 0), ((100, .getfield 10, 3, 4, 0, 20, 14), 50, 0), ((103, .aload_n 0, 1, 0, 0, 0, 0), 5, 0), ((104, .getfield 16, 3, 4, 1, 20, 15), 50, 0), ((107, .iload_n 2, 1, 0, 0, 0, 0), 1, 2), ((108, .iaload, 1, 0, 0, 0, 0), 52, 0), ((109, .iload_n 3, 1, 0, 0, 0, 0), 1, 3), ((110, .iadd, 1, 0, 0, 0, 0), 16, 0), ((111, .baload, 1, 0, 0, 0, 0), 54, 0)],
  [((112, .aload_n 0, 1, 0, 0, 0, 0), 5, 0), ((113, .getfield 35, 3, 4, 14, 20, 1), 50, 0), ((116, .iload_n 3, 1, 0, 0, 0, 0), 1, 3), ((117, .baload, 1, 0, 0, 0, 0), 54, 0), ((118, .if_icmp .ne 9, 3, 127, 0, 0, 0), 45, 0), ((121, .iinc 3 1, 3, 1, 0, 0, 0), 36, 3), ((124, .goto (-37), 3, 87, 0, 0, 0), 37, 0), ((127, .iload_n 3, 1, 0, 0, 0, 0), 1, 3)],
  [((128, .aload_n 0, 1, 0, 0, 0, 0), 5, 0), ((129, .getfield 63, 3, 4, 15, 0, 0), 50, 0), ((132, .if_icmp .ne 5, 3, 137, 0, 0, 0), 45, 0), ((135, .iload_n 2, 1, 0, 0, 0, 0), 1, 2), ((136, .ireturn, 1, 0, 0, 0, 0), 1000, 0), ((137, .aload_n 0, 1, 0, 0, 0, 0), 5, 0), ((138, .getfield 23, 3, 4, 3, 20, 16), 50, 0), ((141, .iload_n 2, 1, 0, 0, 0, 0), 1, 2), ((142, .iaload, 1, 0, 0, 0, 0), 52, 0), ((143, .iconst 1, 1, 1, 0, 0, 0), 12, 0)],
  [((144, .isub, 1, 0, 0, 0, 0), 17, 0), ((145, .istore_n 2, 1, 0, 0, 0, 0), 7, 2), ((146, .goto (-82), 3, 64, 0, 0, 0), 37, 0), ((149, .iconst (-1), 1, 4294967295, 0, 0, 0), 12, 0), ((150, .ireturn, 1, 0, 0, 0, 0), 1000, 0)]])
def al_mX8_add : ev_MeK := (al_yX8_add, prog_10_method_24_code, 2, (some .int), [[((0, .aload_n 0, 1, 0, 0, 0, 0), 5, 0), ((1, .getfield 105, 3, 4, 8, 0, 17), 50, 0), ((4, .sipush 3000, 3, 3000, 0, 0, 0), 14, 0), ((7, .if_icmp .ge 20, 3, 27, 0, 0, 0), 47, 0), ((10, .aload_n 0, 1, 0, 0, 0, 0), 5, 0), ((11, .getfield 123, 3, 4, 9, 0, 18), 50, 0), ((14, .aload_n 0, 1, 0, 0, 0, 0), 5, 0), ((15, .getfield 63, 3, 4, 15, 0, 0), 50, 0)],
  [((18, .iadd, 1, 0, 0, 0, 0), 16, 0), ((19, .aload_n 0, 1, 0, 0, 0, 0), 5, 0), ((20, .getfield 10, 3, 4, 0, 20, 14), 50, 0), ((23, .arraylength, 1, 0, 0, 0, 0), 58, 0), ((24, .if_icmp .le 5, 3, 29, 0, 0, 0), 49, 0), ((27, .iconst 0, 1, 0, 0, 0, 0), 12, 0), ((28, .ireturn, 1, 0, 0, 0, 0), 1000, 0), ((29, .aload_n 0, 1, 0, 0, 0, 0), 5, 0), ((30, .getfield 105, 3, 4, 8, 0, 17), 50, 0)],
  [((33, .istore_n 1, 1, 0, 0, 0, 0), 7, 1), ((34, .aload_n 0, 1, 0, 0, 0, 0), 5, 0), ((35, .getfield 35, 3, 4, 14, 20, 1), 50, 0), ((38, .iconst 0, 1, 0, 0, 0, 0), 12, 0), ((39, .aload_n 0, 1, 0, 0, 0, 0), 5, 0), ((40, .getfield 10, 3, 4, 0, 20, 14), 50, 0), ((43, .aload_n 0, 1, 0, 0, 0, 0), 5, 0), ((44, .getfield 123, 3, 4, 9, 0, 18), 50, 0), ((47, .aload_n 0, 1, 0, 0, 0, 0), 5, 0)],
  [((48, .getfield 63, 3, 4, 15, 0, 0), 50, 0), ((51, .invokestatic 83, 3, 999, 0, 0, 19), 59, 0), ((54, .aload_n 0, 1, 0, 0, 0, 0), 5, 0), ((55, .getfield 16, 3, 4, 1, 20, 15), 50, 0), ((58, .iload_n 1, 1, 0, 0, 0, 0), 1, 1), ((59, .aload_n 0, 1, 0, 0, 0, 0), 5, 0), ((60, .getfield 123, 3, 4, 9, 0, 18), 50, 0), ((63, .iastore, 1, 0, 0, 0, 0), 53, 0)],
  [((64, .aload_n 0, 1, 0, 0, 0, 0), 5, 0), ((65, .getfield 20, 3, 4, 2, 20, 13), 50, 0), ((68, .iload_n 1, 1, 0, 0, 0, 0), 1, 1), ((69, .aload_n 0, 1, 0, 0, 0, 0), 5, 0), ((70, .getfield 63, 3, 4, 15, 0, 0), 50, 0), ((73, .iastore, 1, 0, 0, 0, 0), 53, 0), ((74, .aload_n 0, 1, 0, 0, 0, 0), 5, 0), ((75, .getfield 29, 3, 4, 5, 20, 23), 50, 0), ((78, .iload_n 1, 1, 0, 0, 0, 0), 1, 1), ((79, .aload_n 0, 1, 0, 0, 0, 0), 5, 0)],
  [((80, .getfield 126, 3, 4, 6, 0, 11), 50, 0), ((83, .iastore, 1, 0, 0, 0, 0), 53, 0), ((84, .aload_n 0, 1, 0, 0, 0, 0), 5, 0), ((85, .getfield 23, 3, 4, 3, 20, 16), 50, 0), ((88, .iload_n 1, 1, 0, 0, 0, 0), 1, 1), ((89, .aload_n 0, 1, 0, 0, 0, 0), 5, 0), ((90, .getfield 26, 3, 4, 4, 20, 12), 50, 0), ((93, .aload_n 0, 1, 0, 0, 0, 0), 5, 0), ((94, .getfield 126, 3, 4, 6, 0, 11), 50, 0)],
  [((97, .iaload, 1, 0, 0, 0, 0), 52, 0), ((98, .iastore, 1, 0, 0, 0, 0), 53, 0), ((99, .aload_n 0, 1, 0, 0, 0, 0), 5, 0), ((100, .getfield 26, 3, 4, 4, 20, 12), 50, 0), ((103, .aload_n 0, 1, 0, 0, 0, 0), 5, 0), ((104, .getfield 126, 3, 4, 6, 0, 11), 50, 0), ((107, .iload_n 1, 1, 0, 0, 0, 0), 1, 1), ((108, .iconst 1, 1, 1, 0, 0, 0), 12, 0), ((109, .iadd, 1, 0, 0, 0, 0), 16, 0), ((110, .iastore, 1, 0, 0, 0, 0), 53, 0), ((111, .aload_n 0, 1, 0, 0, 0, 0), 5, 0)],
  [((112, .dup, 1, 0, 0, 0, 0), 35, 0), ((113, .getfield 123, 3, 4, 9, 0, 18), 50, 0), ((116, .aload_n 0, 1, 0, 0, 0, 0), 5, 0), ((117, .getfield 63, 3, 4, 15, 0, 0), 50, 0), ((120, .iadd, 1, 0, 0, 0, 0), 16, 0), ((121, .putfield 123, 3, 4, 9, 0, 18), 51, 0), ((124, .aload_n 0, 1, 0, 0, 0, 0), 5, 0), ((125, .dup, 1, 0, 0, 0, 0), 35, 0), ((126, .getfield 105, 3, 4, 8, 0, 17), 50, 0)],
  [((129, .iconst 1, 1, 1, 0, 0, 0), 12, 0), ((130, .iadd, 1, 0, 0, 0, 0), 16, 0), ((131, .putfield 105, 3, 4, 8, 0, 17), 51, 0), ((134, .iload_n 1, 1, 0, 0, 0, 0), 1, 1), ((135, .ireturn, 1, 0, 0, 0, 0), 1000, 0)]])
def al_mX8_begin : ev_MeK := (al_yX8_begin, prog_10_method_7_code, 1, none, [[((0, .aload_n 0, 1, 0, 0, 0, 0), 5, 0), ((1, .iconst 0, 1, 0, 0, 0, 0), 12, 0), ((2, .putfield 63, 3, 4, 15, 0, 0), 51, 0), ((5, .return_, 1, 0, 0, 0, 0), 1000, 0)]])
def al_mX8_keepLatent : ev_MeK := (al_yX8_keepLatent, prog_10_method_15_code, 2, (some .int), [[((0, .aload_n 0, 1, 0, 0, 0, 0), 5, 0), ((1, .invokevirtual 99, 3, 8, 1, 4, 24), 56, 0), ((4, .istore_n 1, 1, 0, 0, 0, 0), 7, 1), ((5, .iload_n 1, 1, 0, 0, 0, 0), 1, 1), ((6, .iconst (-1), 1, 4294967295, 0, 0, 0), 12, 0), ((7, .if_icmp .ne 15, 3, 22, 0, 0, 0), 45, 0), ((10, .aload_n 0, 1, 0, 0, 0, 0), 5, 0), ((11, .invokevirtual 102, 3, 9, 1, 4, 25), 56, 0), ((14, .istore_n 1, 1, 0, 0, 0, 0), 7, 1), ((15, .aload_n 0, 1, 0, 0, 0, 0), 5, 0)],
  [((16, .getfield 32, 3, 4, 7, 20, 26), 50, 0), ((19, .iload_n 1, 1, 0, 0, 0, 0), 1, 1), ((20, .iconst 2, 1, 2, 0, 0, 0), 12, 0), ((21, .bastore, 1, 0, 0, 0, 0), 55, 0), ((22, .aload_n 0, 1, 0, 0, 0, 0), 5, 0), ((23, .aload_n 0, 1, 0, 0, 0, 0), 5, 0), ((24, .getfield 105, 3, 4, 8, 0, 17), 50, 0), ((27, .putfield 108, 3, 4, 10, 0, 27), 51, 0), ((30, .aload_n 0, 1, 0, 0, 0, 0), 5, 0), ((31, .aload_n 0, 1, 0, 0, 0, 0), 5, 0)],
  [((32, .getfield 105, 3, 4, 8, 0, 17), 50, 0), ((35, .putfield 111, 3, 4, 11, 0, 28), 51, 0), ((38, .iload_n 1, 1, 0, 0, 0, 0), 1, 1), ((39, .ireturn, 1, 0, 0, 0, 0), 1000, 0)]])
def al_mX8_keepFixed : ev_MeK := (al_yX8_keepFixed, prog_10_method_16_code, 2, (some .int), [[((0, .aload_n 0, 1, 0, 0, 0, 0), 5, 0), ((1, .invokevirtual 99, 3, 8, 1, 4, 24), 56, 0), ((4, .istore_n 1, 1, 0, 0, 0, 0), 7, 1), ((5, .iload_n 1, 1, 0, 0, 0, 0), 1, 1), ((6, .iconst (-1), 1, 4294967295, 0, 0, 0), 12, 0), ((7, .if_icmp .ne 8, 3, 15, 0, 0, 0), 45, 0), ((10, .aload_n 0, 1, 0, 0, 0, 0), 5, 0), ((11, .invokevirtual 102, 3, 9, 1, 4, 25), 56, 0), ((14, .istore_n 1, 1, 0, 0, 0, 0), 7, 1), ((15, .aload_n 0, 1, 0, 0, 0, 0), 5, 0)],
  [((16, .getfield 32, 3, 4, 7, 20, 26), 50, 0), ((19, .iload_n 1, 1, 0, 0, 0, 0), 1, 1), ((20, .iconst 1, 1, 1, 0, 0, 0), 12, 0), ((21, .bastore, 1, 0, 0, 0, 0), 55, 0), ((22, .aload_n 0, 1, 0, 0, 0, 0), 5, 0), ((23, .aload_n 0, 1, 0, 0, 0, 0), 5, 0), ((24, .getfield 105, 3, 4, 8, 0, 17), 50, 0), ((27, .putfield 108, 3, 4, 10, 0, 27), 51, 0), ((30, .aload_n 0, 1, 0, 0, 0, 0), 5, 0), ((31, .aload_n 0, 1, 0, 0, 0, 0), 5, 0)],
  [((32, .getfield 105, 3, 4, 8, 0, 17), 50, 0), ((35, .putfield 111, 3, 4, 11, 0, 28), 51, 0), ((38, .iload_n 1, 1, 0, 0, 0, 0), 1, 1), ((39, .ireturn, 1, 0, 0, 0, 0), 1000, 0)]])
def al_mX8_putWords : ev_MeK := (al_yX8_putWords, prog_10_method_11_code, 3, none, [[((0, .iconst 0, 1, 0, 0, 0, 0), 12, 0), ((1, .istore_n 2, 1, 0, 0, 0, 0), 7, 2), ((2, .iload_n 2, 1, 0, 0, 0, 0), 1, 2), ((3, .aload_n 1, 1, 0, 0, 0, 0), 59, 1), ((4, .invokevirtual 50, 3, 6, 1, 1, 29), 59, 0), ((7, .if_icmp .ge 18, 3, 25, 0, 0, 0), 47, 0), ((10, .aload_n 0, 1, 0, 0, 0, 0), 59, 0), ((11, .aload_n 1, 1, 0, 0, 0, 0), 59, 1), ((12, .iload_n 2, 1, 0, 0, 0, 0), 1, 2), ((13, .invokevirtual 56, 3, 1, 2, 1, 30), 59, 0)],
  [((16, .invokevirtual 67, 3, 0, 2, 4, 31), 56, 0), ((19, .iinc 2 1, 3, 1, 0, 0, 0), 36, 2), ((22, .goto (-20), 3, 2, 0, 0, 0), 37, 0), ((25, .return_, 1, 0, 0, 0, 0), 1000, 0)]])
def al_mX1_latent : ev_MeK := (al_yX1_latent, prog_3_method_3_code, 2, (some .int), [[((0, .aload_n 0, 1, 0, 0, 0, 0), 59, 0), ((1, .getfield 25, 3, 14, 0, 20, 32), 50, 0), ((4, .invokevirtual 93, 3, 10, 1, 4, 33), 56, 0), ((7, .aload_n 0, 1, 0, 0, 0, 0), 59, 0), ((8, .getfield 25, 3, 14, 0, 20, 32), 50, 0), ((11, .aload_n 1, 1, 0, 0, 0, 0), 59, 1), ((12, .invokevirtual 98, 3, 13, 2, 4, 34), 56, 0), ((15, .aload_n 0, 1, 0, 0, 0, 0), 59, 0)],
  [((16, .getfield 25, 3, 14, 0, 20, 32), 50, 0), ((19, .invokevirtual 102, 3, 11, 1, 4, 35), 56, 0), ((22, .ireturn, 1, 0, 0, 0, 0), 1000, 0)]])
def al_mX1_fixed : ev_MeK := (al_yX1_fixed, prog_3_method_4_code, 2, (some .int), [[((0, .aload_n 0, 1, 0, 0, 0, 0), 59, 0), ((1, .getfield 25, 3, 14, 0, 20, 32), 50, 0), ((4, .invokevirtual 93, 3, 10, 1, 4, 33), 56, 0), ((7, .aload_n 0, 1, 0, 0, 0, 0), 59, 0), ((8, .getfield 25, 3, 14, 0, 20, 32), 50, 0), ((11, .aload_n 1, 1, 0, 0, 0, 0), 59, 1), ((12, .invokevirtual 98, 3, 13, 2, 4, 34), 56, 0), ((15, .aload_n 0, 1, 0, 0, 0, 0), 59, 0)],
  [((16, .getfield 25, 3, 14, 0, 20, 32), 50, 0), ((19, .invokevirtual 105, 3, 12, 1, 4, 36), 56, 0), ((22, .ireturn, 1, 0, 0, 0, 0), 1000, 0)]])
def al_mX12_init : ev_MeK := (al_yX12_init, prog_14_method_1_code, 2, none, [[((0, .aload_n 0, 1, 0, 0, 0, 0), 5, 0), ((1, .invokespecial 1, 3, 0, 0, 0, 37), 58, 0), ((4, .aload_n 0, 1, 0, 0, 0, 0), 5, 0), ((5, .sipush 6000, 3, 6000, 0, 0, 0), 14, 0), ((8, .newarray .int, 2, 0, 0, 0, 40), 58, 0), ((10, .putfield 7, 3, 0, 1, 20, 41), 51, 0), ((13, .aload_n 0, 1, 0, 0, 0, 0), 5, 0), ((14, .ldc 13, 2, 40000, 0, 0, 42), 58, 0)],
  [((16, .newarray .byte, 2, 1, 0, 0, 43), 58, 0), ((18, .putfield 14, 3, 0, 7, 20, 44), 51, 0), ((21, .aload_n 0, 1, 0, 0, 0, 0), 5, 0), ((22, .sipush 3000, 3, 3000, 0, 0, 0), 14, 0), ((25, .newarray .int, 2, 0, 0, 0, 40), 58, 0), ((27, .putfield 18, 3, 0, 9, 20, 45), 51, 0), ((30, .aload_n 0, 1, 0, 0, 0, 0), 5, 0), ((31, .sipush 3000, 3, 3000, 0, 0, 0), 14, 0)],
  [((34, .newarray .int, 2, 0, 0, 0, 40), 58, 0), ((36, .putfield 21, 3, 0, 10, 20, 46), 51, 0), ((39, .aload_n 0, 1, 0, 0, 0, 0), 5, 0), ((40, .sipush 3000, 3, 3000, 0, 0, 0), 14, 0), ((43, .newarray .int, 2, 0, 0, 0, 40), 58, 0), ((45, .putfield 24, 3, 0, 11, 20, 47), 51, 0)],
  [((48, .aload_n 0, 1, 0, 0, 0, 0), 5, 0), ((49, .sipush 3000, 3, 3000, 0, 0, 0), 14, 0), ((52, .newarray .int, 2, 0, 0, 0, 40), 58, 0), ((54, .putfield 27, 3, 0, 12, 20, 48), 51, 0), ((57, .aload_n 0, 1, 0, 0, 0, 0), 5, 0), ((58, .sipush 1024, 3, 1024, 0, 0, 0), 14, 0), ((61, .newarray .int, 2, 0, 0, 0, 40), 58, 0), ((63, .putfield 30, 3, 0, 13, 20, 49), 51, 0)],
  [((66, .aload_n 0, 1, 0, 0, 0, 0), 5, 0), ((67, .sipush 4200, 3, 4200, 0, 0, 0), 14, 0), ((70, .newarray .byte, 2, 1, 0, 0, 43), 58, 0), ((72, .putfield 33, 3, 0, 19, 20, 50), 51, 0), ((75, .aload_n 0, 1, 0, 0, 0, 0), 5, 0), ((76, .sipush 1502, 3, 1502, 0, 0, 0), 14, 0), ((79, .newarray .int, 2, 0, 0, 0, 40), 58, 0)],
  [((81, .putfield 36, 3, 0, 21, 20, 51), 51, 0), ((84, .aload_n 0, 1, 0, 0, 0, 0), 5, 0), ((85, .sipush 1502, 3, 1502, 0, 0, 0), 14, 0), ((88, .newarray .int, 2, 0, 0, 0, 40), 58, 0), ((90, .putfield 39, 3, 0, 22, 20, 52), 51, 0), ((93, .aload_n 0, 1, 0, 0, 0, 0), 5, 0), ((94, .sipush 1502, 3, 1502, 0, 0, 0), 14, 0)],
  [((97, .newarray .long, 2, 10, 0, 0, 53), 58, 0), ((99, .putfield 42, 3, 0, 23, 20, 54), 51, 0), ((102, .aload_n 0, 1, 0, 0, 0, 0), 5, 0), ((103, .bipush 51, 2, 51, 0, 0, 0), 13, 0), ((105, .newarray .int, 2, 0, 0, 0, 40), 58, 0), ((107, .putfield 46, 3, 0, 26, 20, 55), 51, 0), ((110, .aload_n 0, 1, 0, 0, 0, 0), 5, 0), ((111, .bipush 51, 2, 51, 0, 0, 0), 13, 0)],
  [((113, .newarray .int, 2, 0, 0, 0, 40), 58, 0), ((115, .putfield 49, 3, 0, 27, 20, 56), 51, 0), ((118, .aload_n 0, 1, 0, 0, 0, 0), 5, 0), ((119, .bipush 51, 2, 51, 0, 0, 0), 13, 0), ((121, .newarray .int, 2, 0, 0, 0, 40), 58, 0), ((123, .putfield 52, 3, 0, 28, 20, 57), 51, 0), ((126, .aload_n 0, 1, 0, 0, 0, 0), 5, 0), ((127, .bipush 51, 2, 51, 0, 0, 0), 13, 0)],
  [((129, .newarray .int, 2, 0, 0, 0, 40), 58, 0), ((131, .putfield 55, 3, 0, 29, 20, 58), 51, 0), ((134, .aload_n 0, 1, 0, 0, 0, 0), 5, 0), ((135, .bipush 51, 2, 51, 0, 0, 0), 13, 0), ((137, .newarray .boolean, 2, 2, 0, 0, 59), 58, 0), ((139, .putfield 58, 3, 0, 30, 20, 60), 51, 0), ((142, .aload_n 0, 1, 0, 0, 0, 0), 5, 0), ((143, .bipush 51, 2, 51, 0, 0, 0), 13, 0)],
  [((145, .newarray .int, 2, 0, 0, 0, 40), 58, 0), ((147, .putfield 62, 3, 0, 31, 20, 61), 51, 0), ((150, .aload_n 0, 1, 0, 0, 0, 0), 5, 0), ((151, .sipush 1530, 3, 1530, 0, 0, 0), 14, 0), ((154, .newarray .boolean, 2, 2, 0, 0, 59), 58, 0), ((156, .putfield 65, 3, 0, 32, 20, 62), 51, 0), ((159, .aload_n 0, 1, 0, 0, 0, 0), 5, 0)],
  [((160, .sipush 1530, 3, 1530, 0, 0, 0), 14, 0), ((163, .newarray .int, 2, 0, 0, 0, 40), 58, 0), ((165, .putfield 68, 3, 0, 33, 20, 63), 51, 0), ((168, .aload_n 0, 1, 0, 0, 0, 0), 5, 0), ((169, .sipush 14000, 3, 14000, 0, 0, 0), 14, 0), ((172, .newarray .int, 2, 0, 0, 0, 40), 58, 0), ((174, .putfield 71, 3, 0, 35, 20, 64), 51, 0)],
  [((177, .aload_n 0, 1, 0, 0, 0, 0), 5, 0), ((178, .sipush 14000, 3, 14000, 0, 0, 0), 14, 0), ((181, .newarray .int, 2, 0, 0, 0, 40), 58, 0), ((183, .putfield 74, 3, 0, 36, 20, 65), 51, 0), ((186, .aload_n 0, 1, 0, 0, 0, 0), 5, 0), ((187, .sipush 14000, 3, 14000, 0, 0, 0), 14, 0), ((190, .newarray .int, 2, 0, 0, 0, 40), 58, 0)],
  [((192, .putfield 77, 3, 0, 37, 20, 66), 51, 0), ((195, .aload_n 0, 1, 0, 0, 0, 0), 5, 0), ((196, .sipush 14000, 3, 14000, 0, 0, 0), 14, 0), ((199, .newarray .int, 2, 0, 0, 0, 40), 58, 0), ((201, .putfield 80, 3, 0, 38, 20, 67), 51, 0), ((204, .aload_n 0, 1, 0, 0, 0, 0), 5, 0), ((205, .sipush 1501, 3, 1501, 0, 0, 0), 14, 0)],
  [((208, .newarray .long, 2, 10, 0, 0, 53), 58, 0), ((210, .putfield 83, 3, 0, 39, 20, 68), 51, 0), ((213, .aload_n 0, 1, 0, 0, 0, 0), 5, 0), ((214, .sipush 4000, 3, 4000, 0, 0, 0), 14, 0), ((217, .newarray .int, 2, 0, 0, 0, 40), 58, 0), ((219, .putfield 86, 3, 0, 42, 20, 69), 51, 0), ((222, .aload_n 0, 1, 0, 0, 0, 0), 5, 0), ((223, .sipush 4000, 3, 4000, 0, 0, 0), 14, 0)],
  [((226, .newarray .int, 2, 0, 0, 0, 40), 58, 0), ((228, .putfield 89, 3, 0, 43, 20, 70), 51, 0), ((231, .aload_n 0, 1, 0, 0, 0, 0), 5, 0), ((232, .sipush 4000, 3, 4000, 0, 0, 0), 14, 0), ((235, .newarray .int, 2, 0, 0, 0, 40), 58, 0), ((237, .putfield 92, 3, 0, 44, 20, 71), 51, 0)],
  [((240, .aload_n 0, 1, 0, 0, 0, 0), 5, 0), ((241, .sipush 4000, 3, 4000, 0, 0, 0), 14, 0), ((244, .newarray .int, 2, 0, 0, 0, 40), 58, 0), ((246, .putfield 95, 3, 0, 45, 20, 72), 51, 0), ((249, .aload_n 0, 1, 0, 0, 0, 0), 5, 0), ((250, .sipush 1600, 3, 1600, 0, 0, 0), 14, 0), ((253, .newarray .int, 2, 0, 0, 0, 40), 58, 0), ((255, .putfield 98, 3, 0, 48, 20, 73), 51, 0)],
  [((258, .aload_n 0, 1, 0, 0, 0, 0), 5, 0), ((259, .sipush 1600, 3, 1600, 0, 0, 0), 14, 0), ((262, .newarray .int, 2, 0, 0, 0, 40), 58, 0), ((264, .putfield 101, 3, 0, 49, 20, 74), 51, 0), ((267, .aload_n 0, 1, 0, 0, 0, 0), 5, 0), ((268, .bipush 52, 2, 52, 0, 0, 0), 13, 0), ((270, .newarray .int, 2, 0, 0, 0, 40), 58, 0)],
  [((272, .putfield 104, 3, 0, 51, 20, 75), 51, 0), ((275, .aload_n 0, 1, 0, 0, 0, 0), 5, 0), ((276, .bipush 52, 2, 52, 0, 0, 0), 13, 0), ((278, .newarray .int, 2, 0, 0, 0, 40), 58, 0), ((280, .putfield 107, 3, 0, 52, 20, 76), 51, 0), ((283, .aload_n 0, 1, 0, 0, 0, 0), 5, 0), ((284, .bipush 64, 2, 64, 0, 0, 0), 13, 0), ((286, .newarray .int, 2, 0, 0, 0, 40), 58, 0)],
  [((288, .putfield 110, 3, 0, 54, 20, 77), 51, 0), ((291, .aload_n 0, 1, 0, 0, 0, 0), 5, 0), ((292, .bipush 64, 2, 64, 0, 0, 0), 13, 0), ((294, .newarray .int, 2, 0, 0, 0, 40), 58, 0), ((296, .putfield 113, 3, 0, 55, 20, 78), 51, 0), ((299, .aload_n 0, 1, 0, 0, 0, 0), 5, 0), ((300, .sipush 600, 3, 600, 0, 0, 0), 14, 0), ((303, .newarray .int, 2, 0, 0, 0, 40), 58, 0)],
  [((305, .putfield 116, 3, 0, 57, 20, 79), 51, 0), ((308, .aload_n 0, 1, 0, 0, 0, 0), 5, 0), ((309, .sipush 600, 3, 600, 0, 0, 0), 14, 0), ((312, .newarray .int, 2, 0, 0, 0, 40), 58, 0), ((314, .putfield 119, 3, 0, 58, 20, 80), 51, 0), ((317, .aload_n 0, 1, 0, 0, 0, 0), 5, 0), ((318, .sipush 600, 3, 600, 0, 0, 0), 14, 0)],
  [((321, .newarray .int, 2, 0, 0, 0, 40), 58, 0), ((323, .putfield 122, 3, 0, 59, 20, 81), 51, 0), ((326, .aload_n 0, 1, 0, 0, 0, 0), 5, 0), ((327, .sipush 2002, 3, 2002, 0, 0, 0), 14, 0), ((330, .newarray .int, 2, 0, 0, 0, 40), 58, 0), ((332, .putfield 125, 3, 0, 70, 20, 82), 51, 0), ((335, .aload_n 0, 1, 0, 0, 0, 0), 5, 0)],
  [((336, .sipush 2002, 3, 2002, 0, 0, 0), 14, 0), ((339, .newarray .int, 2, 0, 0, 0, 40), 58, 0), ((341, .putfield 128, 3, 0, 71, 20, 83), 51, 0), ((344, .aload_n 0, 1, 0, 0, 0, 0), 5, 0), ((345, .sipush 2002, 3, 2002, 0, 0, 0), 14, 0), ((348, .newarray .int, 2, 0, 0, 0, 40), 58, 0), ((350, .putfield 131, 3, 0, 72, 20, 84), 51, 0)],
  [((353, .aload_n 0, 1, 0, 0, 0, 0), 5, 0), ((354, .sipush 2002, 3, 2002, 0, 0, 0), 14, 0), ((357, .newarray .int, 2, 0, 0, 0, 40), 58, 0), ((359, .putfield 134, 3, 0, 73, 20, 85), 51, 0), ((362, .aload_n 0, 1, 0, 0, 0, 0), 5, 0), ((363, .sipush 2002, 3, 2002, 0, 0, 0), 14, 0), ((366, .newarray .long, 2, 10, 0, 0, 53), 58, 0)],
  [((368, .putfield 137, 3, 0, 74, 20, 86), 51, 0), ((371, .aload_n 0, 1, 0, 0, 0, 0), 5, 0), ((372, .sipush 2002, 3, 2002, 0, 0, 0), 14, 0), ((375, .newarray .int, 2, 0, 0, 0, 40), 58, 0), ((377, .putfield 140, 3, 0, 75, 20, 87), 51, 0), ((380, .aload_n 0, 1, 0, 0, 0, 0), 5, 0), ((381, .ldc 143, 2, 60060, 0, 0, 88), 58, 0), ((383, .newarray .int, 2, 0, 0, 0, 40), 58, 0)],
  [((385, .putfield 144, 3, 0, 76, 20, 89), 51, 0), ((388, .aload_n 0, 1, 0, 0, 0, 0), 5, 0), ((389, .sipush 3001, 3, 3001, 0, 0, 0), 14, 0), ((392, .newarray .int, 2, 0, 0, 0, 40), 58, 0), ((394, .putfield 147, 3, 0, 79, 20, 90), 51, 0), ((397, .aload_n 0, 1, 0, 0, 0, 0), 5, 0), ((398, .sipush 3001, 3, 3001, 0, 0, 0), 14, 0)],
  [((401, .newarray .long, 2, 10, 0, 0, 53), 58, 0), ((403, .putfield 150, 3, 0, 80, 20, 91), 51, 0), ((406, .aload_n 0, 1, 0, 0, 0, 0), 5, 0), ((407, .sipush 3001, 3, 3001, 0, 0, 0), 14, 0), ((410, .newarray .int, 2, 0, 0, 0, 40), 58, 0), ((412, .putfield 153, 3, 0, 81, 20, 92), 51, 0), ((415, .aload_n 0, 1, 0, 0, 0, 0), 5, 0)],
  [((416, .sipush 3001, 3, 3001, 0, 0, 0), 14, 0), ((419, .newarray .long, 2, 10, 0, 0, 53), 58, 0), ((421, .putfield 156, 3, 0, 82, 20, 93), 51, 0), ((424, .aload_n 0, 1, 0, 0, 0, 0), 5, 0), ((425, .sipush 3001, 3, 3001, 0, 0, 0), 14, 0), ((428, .newarray .int, 2, 0, 0, 0, 40), 58, 0), ((430, .putfield 159, 3, 0, 83, 20, 94), 51, 0)],
  [((433, .aload_n 0, 1, 0, 0, 0, 0), 5, 0), ((434, .sipush 3001, 3, 3001, 0, 0, 0), 14, 0), ((437, .newarray .int, 2, 0, 0, 0, 40), 58, 0), ((439, .putfield 162, 3, 0, 84, 20, 95), 51, 0), ((442, .aload_n 0, 1, 0, 0, 0, 0), 5, 0), ((443, .sipush 3001, 3, 3001, 0, 0, 0), 14, 0), ((446, .newarray .int, 2, 0, 0, 0, 40), 58, 0)],
  [((448, .putfield 165, 3, 0, 85, 20, 96), 51, 0), ((451, .aload_n 0, 1, 0, 0, 0, 0), 5, 0), ((452, .sipush 4096, 3, 4096, 0, 0, 0), 14, 0), ((455, .newarray .int, 2, 0, 0, 0, 40), 58, 0), ((457, .putfield 168, 3, 0, 86, 20, 97), 51, 0), ((460, .aload_n 0, 1, 0, 0, 0, 0), 5, 0), ((461, .sipush 3001, 3, 3001, 0, 0, 0), 14, 0)],
  [((464, .newarray .int, 2, 0, 0, 0, 40), 58, 0), ((466, .putfield 171, 3, 0, 87, 20, 98), 51, 0), ((469, .aload_n 0, 1, 0, 0, 0, 0), 5, 0), ((470, .ldc 174, 2, 95000, 0, 0, 99), 58, 0), ((472, .newarray .int, 2, 0, 0, 0, 40), 58, 0), ((474, .putfield 175, 3, 0, 92, 20, 100), 51, 0), ((477, .aload_n 0, 1, 0, 0, 0, 0), 5, 0), ((478, .ldc 174, 2, 95000, 0, 0, 99), 58, 0)],
  [((480, .newarray .long, 2, 10, 0, 0, 53), 58, 0), ((482, .putfield 178, 3, 0, 93, 20, 101), 51, 0), ((485, .aload_n 0, 1, 0, 0, 0, 0), 5, 0), ((486, .ldc 174, 2, 95000, 0, 0, 99), 58, 0), ((488, .newarray .boolean, 2, 2, 0, 0, 59), 58, 0), ((490, .putfield 181, 3, 0, 94, 20, 102), 51, 0), ((493, .aload_n 0, 1, 0, 0, 0, 0), 5, 0), ((494, .ldc 174, 2, 95000, 0, 0, 99), 58, 0)],
  [((496, .newarray .int, 2, 0, 0, 0, 40), 58, 0), ((498, .putfield 184, 3, 0, 95, 20, 103), 51, 0), ((501, .aload_n 0, 1, 0, 0, 0, 0), 5, 0), ((502, .bipush 26, 2, 26, 0, 0, 0), 13, 0), ((504, .newarray .int, 2, 0, 0, 0, 40), 58, 0), ((506, .putfield 187, 3, 0, 97, 20, 104), 51, 0), ((509, .aload_n 0, 1, 0, 0, 0, 0), 5, 0), ((510, .bipush 26, 2, 26, 0, 0, 0), 13, 0)],
  [((512, .newarray .int, 2, 0, 0, 0, 40), 58, 0), ((514, .putfield 190, 3, 0, 98, 20, 105), 51, 0), ((517, .aload_n 0, 1, 0, 0, 0, 0), 5, 0), ((518, .bipush 26, 2, 26, 0, 0, 0), 13, 0), ((520, .newarray .int, 2, 0, 0, 0, 40), 58, 0), ((522, .putfield 193, 3, 0, 99, 20, 106), 51, 0), ((525, .aload_n 0, 1, 0, 0, 0, 0), 5, 0), ((526, .bipush 26, 2, 26, 0, 0, 0), 13, 0)],
  [((528, .newarray .long, 2, 10, 0, 0, 53), 58, 0), ((530, .putfield 196, 3, 0, 100, 20, 107), 51, 0), ((533, .aload_n 0, 1, 0, 0, 0, 0), 5, 0), ((534, .bipush 26, 2, 26, 0, 0, 0), 13, 0), ((536, .newarray .int, 2, 0, 0, 0, 40), 58, 0), ((538, .putfield 199, 3, 0, 101, 20, 108), 51, 0), ((541, .aload_n 0, 1, 0, 0, 0, 0), 5, 0), ((542, .bipush 26, 2, 26, 0, 0, 0), 13, 0)],
  [((544, .newarray .int, 2, 0, 0, 0, 40), 58, 0), ((546, .putfield 202, 3, 0, 102, 20, 109), 51, 0), ((549, .aload_n 0, 1, 0, 0, 0, 0), 5, 0), ((550, .bipush 26, 2, 26, 0, 0, 0), 13, 0), ((552, .newarray .int, 2, 0, 0, 0, 40), 58, 0), ((554, .putfield 205, 3, 0, 103, 20, 110), 51, 0), ((557, .aload_n 0, 1, 0, 0, 0, 0), 5, 0), ((558, .bipush 26, 2, 26, 0, 0, 0), 13, 0)],
  [((560, .newarray .int, 2, 0, 0, 0, 40), 58, 0), ((562, .putfield 208, 3, 0, 104, 20, 111), 51, 0), ((565, .aload_n 0, 1, 0, 0, 0, 0), 5, 0), ((566, .bipush 26, 2, 26, 0, 0, 0), 13, 0), ((568, .newarray .int, 2, 0, 0, 0, 40), 58, 0), ((570, .putfield 211, 3, 0, 105, 20, 112), 51, 0), ((573, .aload_n 0, 1, 0, 0, 0, 0), 5, 0), ((574, .bipush 26, 2, 26, 0, 0, 0), 13, 0)],
  [((576, .newarray .int, 2, 0, 0, 0, 40), 58, 0), ((578, .putfield 214, 3, 0, 106, 20, 113), 51, 0), ((581, .aload_n 0, 1, 0, 0, 0, 0), 5, 0), ((582, .bipush 26, 2, 26, 0, 0, 0), 13, 0), ((584, .newarray .int, 2, 0, 0, 0, 40), 58, 0), ((586, .putfield 217, 3, 0, 107, 20, 114), 51, 0), ((589, .aload_n 0, 1, 0, 0, 0, 0), 5, 0), ((590, .bipush 26, 2, 26, 0, 0, 0), 13, 0)],
  [((592, .newarray .int, 2, 0, 0, 0, 40), 58, 0), ((594, .putfield 220, 3, 0, 108, 20, 115), 51, 0), ((597, .aload_n 0, 1, 0, 0, 0, 0), 5, 0), ((598, .bipush 26, 2, 26, 0, 0, 0), 13, 0), ((600, .newarray .int, 2, 0, 0, 0, 40), 58, 0), ((602, .putfield 223, 3, 0, 109, 20, 116), 51, 0), ((605, .aload_n 0, 1, 0, 0, 0, 0), 5, 0), ((606, .ldc 226, 2, 260000, 0, 0, 117), 58, 0)],
  [((608, .newarray .int, 2, 0, 0, 0, 40), 58, 0), ((610, .putfield 227, 3, 0, 112, 20, 118), 51, 0), ((613, .aload_n 0, 1, 0, 0, 0, 0), 5, 0), ((614, .ldc 226, 2, 260000, 0, 0, 117), 58, 0), ((616, .newarray .long, 2, 10, 0, 0, 53), 58, 0), ((618, .putfield 230, 3, 0, 113, 20, 119), 51, 0), ((621, .aload_n 0, 1, 0, 0, 0, 0), 5, 0), ((622, .ldc 233, 2, 52000, 0, 0, 120), 58, 0)],
  [((624, .newarray .int, 2, 0, 0, 0, 40), 58, 0), ((626, .putfield 234, 3, 0, 114, 20, 121), 51, 0), ((629, .aload_n 0, 1, 0, 0, 0, 0), 5, 0), ((630, .sipush 1248, 3, 1248, 0, 0, 0), 14, 0), ((633, .newarray .int, 2, 0, 0, 0, 40), 58, 0), ((635, .putfield 237, 3, 0, 115, 20, 122), 51, 0), ((638, .aload_n 0, 1, 0, 0, 0, 0), 5, 0), ((639, .sipush 1248, 3, 1248, 0, 0, 0), 14, 0)],
  [((642, .newarray .int, 2, 0, 0, 0, 40), 58, 0), ((644, .putfield 240, 3, 0, 116, 20, 123), 51, 0), ((647, .aload_n 0, 1, 0, 0, 0, 0), 5, 0), ((648, .sipush 1248, 3, 1248, 0, 0, 0), 14, 0), ((651, .newarray .int, 2, 0, 0, 0, 40), 58, 0), ((653, .putfield 243, 3, 0, 117, 20, 124), 51, 0)],
  [((656, .aload_n 0, 1, 0, 0, 0, 0), 5, 0), ((657, .sipush 1248, 3, 1248, 0, 0, 0), 14, 0), ((660, .newarray .int, 2, 0, 0, 0, 40), 58, 0), ((662, .putfield 246, 3, 0, 118, 20, 125), 51, 0), ((665, .aload_n 0, 1, 0, 0, 0, 0), 5, 0), ((666, .sipush 1248, 3, 1248, 0, 0, 0), 14, 0), ((669, .newarray .int, 2, 0, 0, 0, 40), 58, 0), ((671, .putfield 249, 3, 0, 119, 20, 126), 51, 0)],
  [((674, .aload_n 0, 1, 0, 0, 0, 0), 5, 0), ((675, .sipush 1248, 3, 1248, 0, 0, 0), 14, 0), ((678, .newarray .int, 2, 0, 0, 0, 40), 58, 0), ((680, .putfield 252, 3, 0, 120, 20, 127), 51, 0), ((683, .aload_n 0, 1, 0, 0, 0, 0), 5, 0), ((684, .sipush 1248, 3, 1248, 0, 0, 0), 14, 0), ((687, .newarray .int, 2, 0, 0, 0, 40), 58, 0)],
  [((689, .putfield 255, 3, 0, 121, 20, 128), 51, 0), ((692, .aload_n 0, 1, 0, 0, 0, 0), 5, 0), ((693, .sipush 1248, 3, 1248, 0, 0, 0), 14, 0), ((696, .newarray .int, 2, 0, 0, 0, 40), 58, 0), ((698, .putfield 258, 3, 0, 122, 20, 129), 51, 0), ((701, .aload_n 0, 1, 0, 0, 0, 0), 5, 0), ((702, .sipush 1248, 3, 1248, 0, 0, 0), 14, 0)],
  [((705, .newarray .int, 2, 0, 0, 0, 40), 58, 0), ((707, .putfield 261, 3, 0, 123, 20, 130), 51, 0), ((710, .aload_n 0, 1, 0, 0, 0, 0), 5, 0), ((711, .sipush 1248, 3, 1248, 0, 0, 0), 14, 0), ((714, .newarray .int, 2, 0, 0, 0, 40), 58, 0), ((716, .putfield 264, 3, 0, 124, 20, 131), 51, 0), ((719, .aload_n 0, 1, 0, 0, 0, 0), 5, 0)],
  [((720, .sipush 1248, 3, 1248, 0, 0, 0), 14, 0), ((723, .newarray .int, 2, 0, 0, 0, 40), 58, 0), ((725, .putfield 267, 3, 0, 125, 20, 132), 51, 0), ((728, .aload_n 0, 1, 0, 0, 0, 0), 5, 0), ((729, .sipush 1248, 3, 1248, 0, 0, 0), 14, 0), ((732, .newarray .int, 2, 0, 0, 0, 40), 58, 0), ((734, .putfield 270, 3, 0, 126, 20, 133), 51, 0)],
  [((737, .aload_n 0, 1, 0, 0, 0, 0), 5, 0), ((738, .sipush 1248, 3, 1248, 0, 0, 0), 14, 0), ((741, .newarray .int, 2, 0, 0, 0, 40), 58, 0), ((743, .putfield 273, 3, 0, 127, 20, 134), 51, 0), ((746, .aload_n 0, 1, 0, 0, 0, 0), 5, 0), ((747, .ldc_w 276, 3, 62400, 0, 0, 135), 58, 0), ((750, .newarray .int, 2, 0, 0, 0, 40), 58, 0)],
  [((752, .putfield 277, 3, 0, 128, 20, 136), 51, 0), ((755, .aload_n 0, 1, 0, 0, 0, 0), 5, 0), ((756, .sipush 128, 3, 128, 0, 0, 0), 14, 0), ((759, .newarray .int, 2, 0, 0, 0, 40), 58, 0), ((761, .putfield 280, 3, 0, 135, 20, 137), 51, 0), ((764, .aload_n 0, 1, 0, 0, 0, 0), 5, 0), ((765, .sipush 128, 3, 128, 0, 0, 0), 14, 0)],
  [((768, .newarray .long, 2, 10, 0, 0, 53), 58, 0), ((770, .putfield 283, 3, 0, 136, 20, 138), 51, 0), ((773, .aload_n 0, 1, 0, 0, 0, 0), 5, 0), ((774, .sipush 128, 3, 128, 0, 0, 0), 14, 0), ((777, .newarray .int, 2, 0, 0, 0, 40), 58, 0), ((779, .putfield 286, 3, 0, 138, 20, 139), 51, 0), ((782, .aload_n 0, 1, 0, 0, 0, 0), 5, 0), ((783, .sipush 128, 3, 128, 0, 0, 0), 14, 0)],
  [((786, .newarray .long, 2, 10, 0, 0, 53), 58, 0), ((788, .putfield 289, 3, 0, 139, 20, 140), 51, 0), ((791, .aload_n 0, 1, 0, 0, 0, 0), 5, 0), ((792, .sipush 128, 3, 128, 0, 0, 0), 14, 0), ((795, .newarray .int, 2, 0, 0, 0, 40), 58, 0), ((797, .putfield 292, 3, 0, 146, 20, 141), 51, 0)],
  [((800, .aload_n 0, 1, 0, 0, 0, 0), 5, 0), ((801, .sipush 128, 3, 128, 0, 0, 0), 14, 0), ((804, .newarray .long, 2, 10, 0, 0, 53), 58, 0), ((806, .putfield 295, 3, 0, 147, 20, 142), 51, 0), ((809, .aload_n 0, 1, 0, 0, 0, 0), 5, 0), ((810, .sipush 3000, 3, 3000, 0, 0, 0), 14, 0), ((813, .newarray .byte, 2, 1, 0, 0, 43), 58, 0), ((815, .putfield 298, 3, 0, 149, 20, 143), 51, 0)],
  [((818, .aload_n 0, 1, 0, 0, 0, 0), 5, 0), ((819, .sipush 4004, 3, 4004, 0, 0, 0), 14, 0), ((822, .newarray .int, 2, 0, 0, 0, 40), 58, 0), ((824, .putfield 301, 3, 0, 151, 20, 144), 51, 0), ((827, .aload_n 0, 1, 0, 0, 0, 0), 5, 0), ((828, .sipush 2002, 3, 2002, 0, 0, 0), 14, 0), ((831, .newarray .boolean, 2, 2, 0, 0, 59), 58, 0)],
  [((833, .putfield 304, 3, 0, 154, 20, 145), 51, 0), ((836, .aload_n 0, 1, 0, 0, 0, 0), 5, 0), ((837, .bipush 26, 2, 26, 0, 0, 0), 13, 0), ((839, .newarray .boolean, 2, 2, 0, 0, 59), 58, 0), ((841, .putfield 307, 3, 0, 155, 20, 146), 51, 0), ((844, .aload_n 0, 1, 0, 0, 0, 0), 5, 0), ((845, .sipush 2004, 3, 2004, 0, 0, 0), 14, 0)],
  [((848, .newarray .int, 2, 0, 0, 0, 40), 58, 0), ((850, .putfield 310, 3, 0, 156, 20, 147), 51, 0), ((853, .aload_n 0, 1, 0, 0, 0, 0), 5, 0), ((854, .sipush 2002, 3, 2002, 0, 0, 0), 14, 0), ((857, .newarray .int, 2, 0, 0, 0, 40), 58, 0), ((859, .putfield 313, 3, 0, 158, 20, 148), 51, 0), ((862, .aload_n 0, 1, 0, 0, 0, 0), 5, 0), ((863, .sipush 3001, 3, 3001, 0, 0, 0), 14, 0)],
  [((866, .newarray .int, 2, 0, 0, 0, 40), 58, 0), ((868, .putfield 316, 3, 0, 159, 20, 149), 51, 0), ((871, .iconst 0, 1, 0, 0, 0, 0), 12, 0), ((872, .istore_n 1, 1, 0, 0, 0, 0), 7, 1), ((873, .iload_n 1, 1, 0, 0, 0, 0), 1, 1), ((874, .sipush 1024, 3, 1024, 0, 0, 0), 14, 0), ((877, .if_icmp .ge 16, 3, 893, 0, 0, 0), 47, 0)],
  [((880, .aload_n 0, 1, 0, 0, 0, 0), 5, 0), ((881, .getfield 30, 3, 0, 13, 20, 49), 50, 0), ((884, .iload_n 1, 1, 0, 0, 0, 0), 1, 1), ((885, .iconst (-1), 1, 4294967295, 0, 0, 0), 12, 0), ((886, .iastore, 1, 0, 0, 0, 0), 53, 0), ((887, .iinc 1 1, 3, 1, 0, 0, 0), 36, 1), ((890, .goto (-17), 3, 873, 0, 0, 0), 37, 0), ((893, .aload_n 0, 1, 0, 0, 0, 0), 5, 0), ((894, .invokevirtual 319, 3, 17, 1, 0, 150), 56, 0)],
  [((897, .aload_n 0, 1, 0, 0, 0, 0), 5, 0), ((898, .aload_n 0, 1, 0, 0, 0, 0), 5, 0), ((899, .getfield 322, 3, 0, 14, 0, 151), 50, 0), ((902, .putfield 326, 3, 0, 65, 0, 152), 51, 0), ((905, .aload_n 0, 1, 0, 0, 0, 0), 5, 0), ((906, .aload_n 0, 1, 0, 0, 0, 0), 5, 0), ((907, .getfield 329, 3, 0, 8, 0, 153), 50, 0), ((910, .putfield 332, 3, 0, 66, 0, 154), 51, 0)],
  [((913, .return_, 1, 0, 0, 0, 0), 1000, 0)]])
def al_mX12_internBuilt : ev_MeK := (al_yX12_internBuilt, prog_14_method_8_code, 2, none, [[((0, .aload_n 0, 1, 0, 0, 0, 0), 5, 0), ((1, .ldc2_w 352, 3, 26845029215790456, 0, 0, 155), 58, 0), ((4, .lconst 0, 1, 0, 0, 0, 0), 15, 0), ((5, .iconst 0, 1, 0, 0, 0, 0), 12, 0), ((6, .invokevirtual 354, 3, 20, 4, 0, 156), 56, 0), ((9, .istore_n 1, 1, 0, 0, 0, 0), 7, 1), ((10, .aload_n 0, 1, 0, 0, 0, 0), 5, 0), ((11, .ldc2_w 358, 3, 6872332938464816740, 0, 0, 157), 58, 0), ((14, .ldc2_w 360, 3, 25976, 0, 0, 158), 58, 0)],
  [((17, .iconst 0, 1, 0, 0, 0, 0), 12, 0), ((18, .invokevirtual 354, 3, 20, 4, 0, 156), 56, 0), ((21, .istore_n 1, 1, 0, 0, 0, 0), 7, 1), ((22, .aload_n 0, 1, 0, 0, 0, 0), 5, 0), ((23, .ldc2_w 362, 3, 104863293860972, 0, 0, 159), 58, 0), ((26, .lconst 0, 1, 0, 0, 0, 0), 15, 0), ((27, .iconst 0, 1, 0, 0, 0, 0), 12, 0), ((28, .invokevirtual 354, 3, 20, 4, 0, 156), 56, 0), ((31, .istore_n 1, 1, 0, 0, 0, 0), 7, 1)],
  [((32, .aload_n 0, 1, 0, 0, 0, 0), 5, 0), ((33, .ldc2_w 364, 3, 409622111332, 0, 0, 160), 58, 0), ((36, .lconst 0, 1, 0, 0, 0, 0), 15, 0), ((37, .iconst 0, 1, 0, 0, 0, 0), 12, 0), ((38, .invokevirtual 354, 3, 20, 4, 0, 156), 56, 0), ((41, .istore_n 1, 1, 0, 0, 0, 0), 7, 1), ((42, .aload_n 0, 1, 0, 0, 0, 0), 5, 0), ((43, .ldc2_w 366, 3, 409623295330, 0, 0, 161), 58, 0), ((46, .lconst 0, 1, 0, 0, 0, 0), 15, 0), ((47, .iconst 0, 1, 0, 0, 0, 0), 12, 0)],
  [((48, .invokevirtual 354, 3, 20, 4, 0, 156), 56, 0), ((51, .istore_n 1, 1, 0, 0, 0, 0), 7, 1), ((52, .aload_n 0, 1, 0, 0, 0, 0), 5, 0), ((53, .ldc2_w 368, 3, 409622902124, 0, 0, 162), 58, 0), ((56, .lconst 0, 1, 0, 0, 0, 0), 15, 0), ((57, .iconst 0, 1, 0, 0, 0, 0), 12, 0), ((58, .invokevirtual 354, 3, 20, 4, 0, 156), 56, 0), ((61, .istore_n 1, 1, 0, 0, 0, 0), 7, 1), ((62, .aload_n 0, 1, 0, 0, 0, 0), 5, 0), ((63, .ldc2_w 370, 3, 104863394720118, 0, 0, 163), 58, 0)],
  [((66, .lconst 0, 1, 0, 0, 0, 0), 15, 0), ((67, .iconst 0, 1, 0, 0, 0, 0), 12, 0), ((68, .invokevirtual 354, 3, 20, 4, 0, 156), 56, 0), ((71, .istore_n 1, 1, 0, 0, 0, 0), 7, 1), ((72, .aload_n 0, 1, 0, 0, 0, 0), 5, 0), ((73, .ldc2_w 372, 3, 409622900580, 0, 0, 164), 58, 0), ((76, .lconst 0, 1, 0, 0, 0, 0), 15, 0), ((77, .iconst 0, 1, 0, 0, 0, 0), 12, 0), ((78, .invokevirtual 354, 3, 20, 4, 0, 156), 56, 0)],
  [((81, .istore_n 1, 1, 0, 0, 0, 0), 7, 1), ((82, .aload_n 0, 1, 0, 0, 0, 0), 5, 0), ((83, .ldc2_w 374, 3, 104863277084260, 0, 0, 165), 58, 0), ((86, .lconst 0, 1, 0, 0, 0, 0), 15, 0), ((87, .iconst 0, 1, 0, 0, 0, 0), 12, 0), ((88, .invokevirtual 354, 3, 20, 4, 0, 156), 56, 0), ((91, .istore_n 1, 1, 0, 0, 0, 0), 7, 1), ((92, .aload_n 0, 1, 0, 0, 0, 0), 5, 0), ((93, .ldc2_w 376, 3, 409622179698, 0, 0, 166), 58, 0)],
  [((96, .lconst 0, 1, 0, 0, 0, 0), 15, 0), ((97, .iconst 0, 1, 0, 0, 0, 0), 12, 0), ((98, .invokevirtual 354, 3, 20, 4, 0, 156), 56, 0), ((101, .istore_n 1, 1, 0, 0, 0, 0), 7, 1), ((102, .aload_n 0, 1, 0, 0, 0, 0), 5, 0), ((103, .ldc2_w 378, 3, 104863278591858, 0, 0, 167), 58, 0), ((106, .lconst 0, 1, 0, 0, 0, 0), 15, 0), ((107, .iconst 0, 1, 0, 0, 0, 0), 12, 0), ((108, .invokevirtual 354, 3, 20, 4, 0, 156), 56, 0), ((111, .istore_n 1, 1, 0, 0, 0, 0), 7, 1)],
  [((112, .aload_n 0, 1, 0, 0, 0, 0), 5, 0), ((113, .ldc2_w 380, 3, 409623292012, 0, 0, 168), 58, 0), ((116, .lconst 0, 1, 0, 0, 0, 0), 15, 0), ((117, .iconst 0, 1, 0, 0, 0, 0), 12, 0), ((118, .invokevirtual 354, 3, 20, 4, 0, 156), 56, 0), ((121, .istore_n 1, 1, 0, 0, 0, 0), 7, 1), ((122, .aload_n 0, 1, 0, 0, 0, 0), 5, 0), ((123, .ldc2_w 382, 3, 409623292018, 0, 0, 169), 58, 0), ((126, .lconst 0, 1, 0, 0, 0, 0), 15, 0), ((127, .iconst 0, 1, 0, 0, 0, 0), 12, 0)],
  [((128, .invokevirtual 354, 3, 20, 4, 0, 156), 56, 0), ((131, .istore_n 1, 1, 0, 0, 0, 0), 7, 1), ((132, .aload_n 0, 1, 0, 0, 0, 0), 5, 0), ((133, .ldc2_w 384, 3, 409623424621, 0, 0, 170), 58, 0), ((136, .lconst 0, 1, 0, 0, 0, 0), 15, 0), ((137, .iconst 0, 1, 0, 0, 0, 0), 12, 0), ((138, .invokevirtual 354, 3, 20, 4, 0, 156), 56, 0), ((141, .istore_n 1, 1, 0, 0, 0, 0), 7, 1), ((142, .aload_n 0, 1, 0, 0, 0, 0), 5, 0), ((143, .ldc2_w 386, 3, 104863277936500, 0, 0, 171), 58, 0)],
  [((146, .lconst 0, 1, 0, 0, 0, 0), 15, 0), ((147, .iconst 0, 1, 0, 0, 0, 0), 12, 0), ((148, .invokevirtual 354, 3, 20, 4, 0, 156), 56, 0), ((151, .istore_n 1, 1, 0, 0, 0, 0), 7, 1), ((152, .aload_n 0, 1, 0, 0, 0, 0), 5, 0), ((153, .ldc2_w 388, 3, 6872320886635192692, 0, 0, 172), 58, 0), ((156, .lconst 0, 1, 0, 0, 0, 0), 15, 0), ((157, .iconst 0, 1, 0, 0, 0, 0), 12, 0), ((158, .invokevirtual 354, 3, 20, 4, 0, 156), 56, 0)],
  [((161, .istore_n 1, 1, 0, 0, 0, 0), 7, 1), ((162, .aload_n 0, 1, 0, 0, 0, 0), 5, 0), ((163, .ldc2_w 390, 3, 409622832494, 0, 0, 173), 58, 0), ((166, .lconst 0, 1, 0, 0, 0, 0), 15, 0), ((167, .iconst 0, 1, 0, 0, 0, 0), 12, 0), ((168, .invokevirtual 354, 3, 20, 4, 0, 156), 56, 0), ((171, .istore_n 1, 1, 0, 0, 0, 0), 7, 1), ((172, .aload_n 0, 1, 0, 0, 0, 0), 5, 0), ((173, .ldc2_w 392, 3, 1600087409, 0, 0, 174), 58, 0)],
  [((176, .lconst 0, 1, 0, 0, 0, 0), 15, 0), ((177, .iconst 0, 1, 0, 0, 0, 0), 12, 0), ((178, .invokevirtual 354, 3, 20, 4, 0, 156), 56, 0), ((181, .istore_n 1, 1, 0, 0, 0, 0), 7, 1), ((182, .aload_n 0, 1, 0, 0, 0, 0), 5, 0), ((183, .ldc2_w 394, 3, 1600089204, 0, 0, 175), 58, 0), ((186, .lconst 0, 1, 0, 0, 0, 0), 15, 0), ((187, .iconst 0, 1, 0, 0, 0, 0), 12, 0), ((188, .invokevirtual 354, 3, 20, 4, 0, 156), 56, 0), ((191, .istore_n 1, 1, 0, 0, 0, 0), 7, 1)],
  [((192, .aload_n 0, 1, 0, 0, 0, 0), 5, 0), ((193, .ldc2_w 396, 3, 1600089189, 0, 0, 176), 58, 0), ((196, .lconst 0, 1, 0, 0, 0, 0), 15, 0), ((197, .iconst 0, 1, 0, 0, 0, 0), 12, 0), ((198, .invokevirtual 354, 3, 20, 4, 0, 156), 56, 0), ((201, .istore_n 1, 1, 0, 0, 0, 0), 7, 1), ((202, .aload_n 0, 1, 0, 0, 0, 0), 5, 0), ((203, .ldc2_w 398, 3, 1600087907, 0, 0, 177), 58, 0), ((206, .lconst 0, 1, 0, 0, 0, 0), 15, 0), ((207, .iconst 0, 1, 0, 0, 0, 0), 12, 0)],
  [((208, .invokevirtual 354, 3, 20, 4, 0, 156), 56, 0), ((211, .istore_n 1, 1, 0, 0, 0, 0), 7, 1), ((212, .aload_n 0, 1, 0, 0, 0, 0), 5, 0), ((213, .ldc2_w 400, 3, 104863462548581, 0, 0, 178), 58, 0), ((216, .lconst 0, 1, 0, 0, 0, 0), 15, 0), ((217, .iconst 0, 1, 0, 0, 0, 0), 12, 0), ((218, .invokevirtual 354, 3, 20, 4, 0, 156), 56, 0), ((221, .istore_n 1, 1, 0, 0, 0, 0), 7, 1), ((222, .aload_n 0, 1, 0, 0, 0, 0), 5, 0), ((223, .invokevirtual 402, 3, 18, 1, 0, 179), 56, 0)],
  [((226, .aload_n 0, 1, 0, 0, 0, 0), 5, 0), ((227, .invokevirtual 405, 3, 19, 1, 0, 180), 56, 0), ((230, .return_, 1, 0, 0, 0, 0), 1000, 0)]])
def al_mX12_internTypes : ev_MeK := (al_yX12_internTypes, prog_14_method_9_code, 2, none, [[((0, .aload_n 0, 1, 0, 0, 0, 0), 5, 0), ((1, .ldc2_w 408, 3, 7235948, 0, 0, 181), 58, 0), ((4, .lconst 0, 1, 0, 0, 0, 0), 15, 0), ((5, .iconst 0, 1, 0, 0, 0, 0), 12, 0), ((6, .invokevirtual 354, 3, 20, 4, 0, 156), 56, 0), ((9, .istore_n 1, 1, 0, 0, 0, 0), 7, 1), ((10, .aload_n 0, 1, 0, 0, 0, 0), 5, 0), ((11, .ldc2_w 410, 3, 27707072068280686, 0, 0, 182), 58, 0), ((14, .lconst 0, 1, 0, 0, 0, 0), 15, 0), ((15, .iconst 0, 1, 0, 0, 0, 0), 12, 0)],
  [((16, .invokevirtual 354, 3, 20, 4, 0, 156), 56, 0), ((19, .istore_n 1, 1, 0, 0, 0, 0), 7, 1), ((20, .aload_n 0, 1, 0, 0, 0, 0), 5, 0), ((21, .ldc2_w 412, 3, 121450625394034, 0, 0, 183), 58, 0), ((24, .lconst 0, 1, 0, 0, 0, 0), 15, 0), ((25, .iconst 0, 1, 0, 0, 0, 0), 12, 0), ((26, .invokevirtual 354, 3, 20, 4, 0, 156), 56, 0), ((29, .istore_n 1, 1, 0, 0, 0, 0), 7, 1), ((30, .aload_n 0, 1, 0, 0, 0, 0), 5, 0), ((31, .ldc2_w 414, 3, 126943972912743, 0, 0, 184), 58, 0)],
  [((34, .lconst 0, 1, 0, 0, 0, 0), 15, 0), ((35, .iconst 0, 1, 0, 0, 0, 0), 12, 0), ((36, .invokevirtual 354, 3, 20, 4, 0, 156), 56, 0), ((39, .istore_n 1, 1, 0, 0, 0, 0), 7, 1), ((40, .aload_n 0, 1, 0, 0, 0, 0), 5, 0), ((41, .ldc2_w 416, 3, 499850046565, 0, 0, 185), 58, 0), ((44, .lconst 0, 1, 0, 0, 0, 0), 15, 0), ((45, .iconst 0, 1, 0, 0, 0, 0), 12, 0), ((46, .invokevirtual 354, 3, 20, 4, 0, 156), 56, 0)],
  [((49, .istore_n 1, 1, 0, 0, 0, 0), 7, 1), ((50, .aload_n 0, 1, 0, 0, 0, 0), 5, 0), ((51, .ldc2_w 418, 3, 7382928537577680750, 0, 0, 186), 58, 0), ((54, .lconst 0, 1, 0, 0, 0, 0), 15, 0), ((55, .iconst 0, 1, 0, 0, 0, 0), 12, 0), ((56, .invokevirtual 354, 3, 20, 4, 0, 156), 56, 0), ((59, .istore_n 1, 1, 0, 0, 0, 0), 7, 1), ((60, .aload_n 0, 1, 0, 0, 0, 0), 5, 0), ((61, .ldc2_w 420, 3, 127991944667492, 0, 0, 187), 58, 0)],
  [((64, .lconst 0, 1, 0, 0, 0, 0), 15, 0), ((65, .iconst 0, 1, 0, 0, 0, 0), 12, 0), ((66, .invokevirtual 354, 3, 20, 4, 0, 156), 56, 0), ((69, .istore_n 1, 1, 0, 0, 0, 0), 7, 1), ((70, .aload_n 0, 1, 0, 0, 0, 0), 5, 0), ((71, .ldc2_w 422, 3, 7234935, 0, 0, 188), 58, 0), ((74, .lconst 0, 1, 0, 0, 0, 0), 15, 0), ((75, .iconst 1, 1, 1, 0, 0, 0), 12, 0), ((76, .invokevirtual 354, 3, 20, 4, 0, 156), 56, 0), ((79, .istore_n 1, 1, 0, 0, 0, 0), 7, 1)],
  [((80, .aload_n 0, 1, 0, 0, 0, 0), 5, 0), ((81, .ldc2_w 424, 3, 32497644298331492, 0, 0, 189), 58, 0), ((84, .lconst 0, 1, 0, 0, 0, 0), 15, 0), ((85, .iconst 0, 1, 0, 0, 0, 0), 12, 0), ((86, .invokevirtual 354, 3, 20, 4, 0, 156), 56, 0), ((89, .istore_n 1, 1, 0, 0, 0, 0), 7, 1), ((90, .aload_n 0, 1, 0, 0, 0, 0), 5, 0), ((91, .ldc2_w 426, 3, 32217264504270439, 0, 0, 190), 58, 0), ((94, .lconst 0, 1, 0, 0, 0, 0), 15, 0), ((95, .iconst 1, 1, 1, 0, 0, 0), 12, 0)],
  [((96, .invokevirtual 354, 3, 20, 4, 0, 156), 56, 0), ((99, .istore_n 1, 1, 0, 0, 0, 0), 7, 1), ((100, .aload_n 0, 1, 0, 0, 0, 0), 5, 0), ((101, .ldc2_w 428, 3, 121424940196204, 0, 0, 191), 58, 0), ((104, .lconst 0, 1, 0, 0, 0, 0), 15, 0), ((105, .iconst 0, 1, 0, 0, 0, 0), 12, 0), ((106, .invokevirtual 354, 3, 20, 4, 0, 156), 56, 0), ((109, .istore_n 1, 1, 0, 0, 0, 0), 7, 1), ((110, .aload_n 0, 1, 0, 0, 0, 0), 5, 0), ((111, .ldc2_w 430, 3, 1684365668, 0, 0, 192), 58, 0)],
  [((114, .lconst 0, 1, 0, 0, 0, 0), 15, 0), ((115, .iconst 0, 1, 0, 0, 0, 0), 12, 0), ((116, .invokevirtual 354, 3, 20, 4, 0, 156), 56, 0), ((119, .istore_n 1, 1, 0, 0, 0, 0), 7, 1), ((120, .aload_n 0, 1, 0, 0, 0, 0), 5, 0), ((121, .ldc2_w 432, 3, 7094703752064557426, 0, 0, 193), 58, 0), ((124, .ldc2_w 434, 3, 116, 0, 0, 194), 58, 0), ((127, .iconst 0, 1, 0, 0, 0, 0), 12, 0)],
  [((128, .invokevirtual 354, 3, 20, 4, 0, 156), 56, 0), ((131, .istore_n 1, 1, 0, 0, 0, 0), 7, 1), ((132, .aload_n 0, 1, 0, 0, 0, 0), 5, 0), ((133, .ldc2_w 436, 3, 7234295459109429618, 0, 0, 195), 58, 0), ((136, .ldc2_w 434, 3, 116, 0, 0, 194), 58, 0), ((139, .iconst 0, 1, 0, 0, 0, 0), 12, 0), ((140, .invokevirtual 354, 3, 20, 4, 0, 156), 56, 0), ((143, .istore_n 1, 1, 0, 0, 0, 0), 7, 1)],
  [((144, .aload_n 0, 1, 0, 0, 0, 0), 5, 0), ((145, .ldc2_w 438, 3, 110, 0, 0, 196), 58, 0), ((148, .lconst 0, 1, 0, 0, 0, 0), 15, 0), ((149, .iconst 1, 1, 1, 0, 0, 0), 12, 0), ((150, .invokevirtual 354, 3, 20, 4, 0, 156), 56, 0), ((153, .istore_n 1, 1, 0, 0, 0, 0), 7, 1), ((154, .return_, 1, 0, 0, 0, 0), 1000, 0)]])
def al_mX12_internNames : ev_MeK := (al_yX12_internNames, prog_14_method_10_code, 2, none, [[((0, .aload_n 0, 1, 0, 0, 0, 0), 5, 0), ((1, .ldc2_w 440, 3, 482955849332, 0, 0, 197), 58, 0), ((4, .lconst 0, 1, 0, 0, 0, 0), 15, 0), ((5, .iconst 1, 1, 1, 0, 0, 0), 12, 0), ((6, .invokevirtual 354, 3, 20, 4, 0, 156), 56, 0), ((9, .istore_n 1, 1, 0, 0, 0, 0), 7, 1), ((10, .aload_n 0, 1, 0, 0, 0, 0), 5, 0), ((11, .ldc2_w 442, 3, 1954115685, 0, 0, 198), 58, 0), ((14, .lconst 0, 1, 0, 0, 0, 0), 15, 0), ((15, .iconst 1, 1, 1, 0, 0, 0), 12, 0)],
  [((16, .invokevirtual 354, 3, 20, 4, 0, 156), 56, 0), ((19, .istore_n 1, 1, 0, 0, 0, 0), 7, 1), ((20, .aload_n 0, 1, 0, 0, 0, 0), 5, 0), ((21, .ldc2_w 444, 3, 8390051574787436135, 0, 0, 199), 58, 0), ((24, .lconst 0, 1, 0, 0, 0, 0), 15, 0), ((25, .iconst 1, 1, 1, 0, 0, 0), 12, 0), ((26, .invokevirtual 354, 3, 20, 4, 0, 156), 56, 0), ((29, .istore_n 1, 1, 0, 0, 0, 0), 7, 1), ((30, .aload_n 0, 1, 0, 0, 0, 0), 5, 0), ((31, .ldc2_w 446, 3, 8390046081439917426, 0, 0, 200), 58, 0)],
  [((34, .lconst 0, 1, 0, 0, 0, 0), 15, 0), ((35, .iconst 1, 1, 1, 0, 0, 0), 12, 0), ((36, .invokevirtual 354, 3, 20, 4, 0, 156), 56, 0), ((39, .istore_n 1, 1, 0, 0, 0, 0), 7, 1), ((40, .aload_n 0, 1, 0, 0, 0, 0), 5, 0), ((41, .ldc2_w 448, 3, 1852143732, 0, 0, 201), 58, 0), ((44, .lconst 0, 1, 0, 0, 0, 0), 15, 0), ((45, .iconst 1, 1, 1, 0, 0, 0), 12, 0), ((46, .invokevirtual 354, 3, 20, 4, 0, 156), 56, 0)],
  [((49, .istore_n 1, 1, 0, 0, 0, 0), 7, 1), ((50, .aload_n 0, 1, 0, 0, 0, 0), 5, 0), ((51, .ldc2_w 450, 3, 482670637683, 0, 0, 202), 58, 0), ((54, .lconst 0, 1, 0, 0, 0, 0), 15, 0), ((55, .iconst 1, 1, 1, 0, 0, 0), 12, 0), ((56, .invokevirtual 354, 3, 20, 4, 0, 156), 56, 0), ((59, .istore_n 1, 1, 0, 0, 0, 0), 7, 1), ((60, .aload_n 0, 1, 0, 0, 0, 0), 5, 0), ((61, .ldc2_w 452, 3, 115931391554163, 0, 0, 203), 58, 0)],
  [((64, .lconst 0, 1, 0, 0, 0, 0), 15, 0), ((65, .iconst 1, 1, 1, 0, 0, 0), 12, 0), ((66, .invokevirtual 354, 3, 20, 4, 0, 156), 56, 0), ((69, .istore_n 1, 1, 0, 0, 0, 0), 7, 1), ((70, .aload_n 0, 1, 0, 0, 0, 0), 5, 0), ((71, .ldc2_w 454, 3, 125762940659060, 0, 0, 204), 58, 0), ((74, .lconst 0, 1, 0, 0, 0, 0), 15, 0), ((75, .iconst 1, 1, 1, 0, 0, 0), 12, 0), ((76, .invokevirtual 354, 3, 20, 4, 0, 156), 56, 0), ((79, .istore_n 1, 1, 0, 0, 0, 0), 7, 1)],
  [((80, .aload_n 0, 1, 0, 0, 0, 0), 5, 0), ((81, .ldc2_w 456, 3, 125762941445492, 0, 0, 205), 58, 0), ((84, .lconst 0, 1, 0, 0, 0, 0), 15, 0), ((85, .iconst 1, 1, 1, 0, 0, 0), 12, 0), ((86, .invokevirtual 354, 3, 20, 4, 0, 156), 56, 0), ((89, .istore_n 1, 1, 0, 0, 0, 0), 7, 1), ((90, .aload_n 0, 1, 0, 0, 0, 0), 5, 0), ((91, .ldc2_w 458, 3, 8242000070643638636, 0, 0, 206), 58, 0), ((94, .lconst 0, 1, 0, 0, 0, 0), 15, 0), ((95, .iconst 1, 1, 1, 0, 0, 0), 12, 0)],
  [((96, .invokevirtual 354, 3, 20, 4, 0, 156), 56, 0), ((99, .istore_n 1, 1, 0, 0, 0, 0), 7, 1), ((100, .aload_n 0, 1, 0, 0, 0, 0), 5, 0), ((101, .ldc2_w 460, 3, 125762940986734, 0, 0, 207), 58, 0), ((104, .lconst 0, 1, 0, 0, 0, 0), 15, 0), ((105, .iconst 1, 1, 1, 0, 0, 0), 12, 0), ((106, .invokevirtual 354, 3, 20, 4, 0, 156), 56, 0), ((109, .istore_n 1, 1, 0, 0, 0, 0), 7, 1), ((110, .aload_n 0, 1, 0, 0, 0, 0), 5, 0), ((111, .ldc2_w 462, 3, 7450489171756736884, 0, 0, 208), 58, 0)],
  [((114, .ldc2_w 464, 3, 1633840229, 0, 0, 209), 58, 0), ((117, .iconst 1, 1, 1, 0, 0, 0), 12, 0), ((118, .invokevirtual 354, 3, 20, 4, 0, 156), 56, 0), ((121, .istore_n 1, 1, 0, 0, 0, 0), 7, 1), ((122, .aload_n 0, 1, 0, 0, 0, 0), 5, 0), ((123, .ldc2_w 466, 3, 8315180300211872116, 0, 0, 210), 58, 0), ((126, .ldc2_w 464, 3, 1633840229, 0, 0, 209), 58, 0)],
  [((129, .iconst 1, 1, 1, 0, 0, 0), 12, 0), ((130, .invokevirtual 354, 3, 20, 4, 0, 156), 56, 0), ((133, .istore_n 1, 1, 0, 0, 0, 0), 7, 1), ((134, .aload_n 0, 1, 0, 0, 0, 0), 5, 0), ((135, .ldc2_w 468, 3, 435711799154, 0, 0, 211), 58, 0), ((138, .lconst 0, 1, 0, 0, 0, 0), 15, 0), ((139, .iconst 1, 1, 1, 0, 0, 0), 12, 0), ((140, .invokevirtual 354, 3, 20, 4, 0, 156), 56, 0), ((143, .istore_n 1, 1, 0, 0, 0, 0), 7, 1)],
  [((144, .aload_n 0, 1, 0, 0, 0, 0), 5, 0), ((145, .ldc2_w 470, 3, 482703666284, 0, 0, 212), 58, 0), ((148, .lconst 0, 1, 0, 0, 0, 0), 15, 0), ((149, .iconst 1, 1, 1, 0, 0, 0), 12, 0), ((150, .invokevirtual 354, 3, 20, 4, 0, 156), 56, 0), ((153, .istore_n 1, 1, 0, 0, 0, 0), 7, 1), ((154, .aload_n 0, 1, 0, 0, 0, 0), 5, 0), ((155, .ldc2_w 472, 3, 126879447475060, 0, 0, 213), 58, 0), ((158, .lconst 0, 1, 0, 0, 0, 0), 15, 0), ((159, .iconst 1, 1, 1, 0, 0, 0), 12, 0)],
  [((160, .invokevirtual 354, 3, 20, 4, 0, 156), 56, 0), ((163, .istore_n 1, 1, 0, 0, 0, 0), 7, 1), ((164, .aload_n 0, 1, 0, 0, 0, 0), 5, 0), ((165, .ldc2_w 474, 3, 27988534160089972, 0, 0, 214), 58, 0), ((168, .lconst 0, 1, 0, 0, 0, 0), 15, 0), ((169, .iconst 1, 1, 1, 0, 0, 0), 12, 0), ((170, .invokevirtual 354, 3, 20, 4, 0, 156), 56, 0), ((173, .istore_n 1, 1, 0, 0, 0, 0), 7, 1), ((174, .aload_n 0, 1, 0, 0, 0, 0), 5, 0), ((175, .ldc2_w 476, 3, 1818850164, 0, 0, 215), 58, 0)],
  [((178, .lconst 0, 1, 0, 0, 0, 0), 15, 0), ((179, .iconst 1, 1, 1, 0, 0, 0), 12, 0), ((180, .invokevirtual 354, 3, 20, 4, 0, 156), 56, 0), ((183, .istore_n 1, 1, 0, 0, 0, 0), 7, 1), ((184, .aload_n 0, 1, 0, 0, 0, 0), 5, 0), ((185, .ldc2_w 478, 3, 1952807028, 0, 0, 216), 58, 0), ((188, .lconst 0, 1, 0, 0, 0, 0), 15, 0), ((189, .iconst 1, 1, 1, 0, 0, 0), 12, 0), ((190, .invokevirtual 354, 3, 20, 4, 0, 156), 56, 0)],
  [((193, .istore_n 1, 1, 0, 0, 0, 0), 7, 1), ((194, .aload_n 0, 1, 0, 0, 0, 0), 5, 0), ((195, .ldc2_w 480, 3, 1885434484, 0, 0, 217), 58, 0), ((198, .lconst 0, 1, 0, 0, 0, 0), 15, 0), ((199, .iconst 1, 1, 1, 0, 0, 0), 12, 0), ((200, .invokevirtual 354, 3, 20, 4, 0, 156), 56, 0), ((203, .istore_n 1, 1, 0, 0, 0, 0), 7, 1), ((204, .aload_n 0, 1, 0, 0, 0, 0), 5, 0), ((205, .ldc2_w 482, 3, 115923103347316, 0, 0, 218), 58, 0)],
  [((208, .lconst 0, 1, 0, 0, 0, 0), 15, 0), ((209, .iconst 1, 1, 1, 0, 0, 0), 12, 0), ((210, .invokevirtual 354, 3, 20, 4, 0, 156), 56, 0), ((213, .istore_n 1, 1, 0, 0, 0, 0), 7, 1), ((214, .aload_n 0, 1, 0, 0, 0, 0), 5, 0), ((215, .ldc2_w 484, 3, 125779953284709, 0, 0, 219), 58, 0), ((218, .lconst 0, 1, 0, 0, 0, 0), 15, 0), ((219, .iconst 1, 1, 1, 0, 0, 0), 12, 0), ((220, .invokevirtual 354, 3, 20, 4, 0, 156), 56, 0), ((223, .istore_n 1, 1, 0, 0, 0, 0), 7, 1)],
  [((224, .aload_n 0, 1, 0, 0, 0, 0), 5, 0), ((225, .ldc2_w 486, 3, 109330244526452, 0, 0, 220), 58, 0), ((228, .lconst 0, 1, 0, 0, 0, 0), 15, 0), ((229, .iconst 1, 1, 1, 0, 0, 0), 12, 0), ((230, .invokevirtual 354, 3, 20, 4, 0, 156), 56, 0), ((233, .istore_n 1, 1, 0, 0, 0, 0), 7, 1), ((234, .aload_n 0, 1, 0, 0, 0, 0), 5, 0), ((235, .ldc2_w 488, 3, 1885430635, 0, 0, 221), 58, 0), ((238, .lconst 0, 1, 0, 0, 0, 0), 15, 0), ((239, .iconst 1, 1, 1, 0, 0, 0), 12, 0)],
  [((240, .invokevirtual 354, 3, 20, 4, 0, 156), 56, 0), ((243, .istore_n 1, 1, 0, 0, 0, 0), 7, 1), ((244, .aload_n 0, 1, 0, 0, 0, 0), 5, 0), ((245, .ldc2_w 490, 3, 129117192282987, 0, 0, 222), 58, 0), ((248, .lconst 0, 1, 0, 0, 0, 0), 15, 0), ((249, .iconst 1, 1, 1, 0, 0, 0), 12, 0), ((250, .invokevirtual 354, 3, 20, 4, 0, 156), 56, 0), ((253, .istore_n 1, 1, 0, 0, 0, 0), 7, 1), ((254, .aload_n 0, 1, 0, 0, 0, 0), 5, 0), ((255, .ldc2_w 492, 3, 7566690, 0, 0, 223), 58, 0)],
  [((258, .lconst 0, 1, 0, 0, 0, 0), 15, 0), ((259, .iconst 1, 1, 1, 0, 0, 0), 12, 0), ((260, .invokevirtual 354, 3, 20, 4, 0, 156), 56, 0), ((263, .istore_n 1, 1, 0, 0, 0, 0), 7, 1), ((264, .aload_n 0, 1, 0, 0, 0, 0), 5, 0), ((265, .ldc2_w 494, 3, 1652126821, 0, 0, 224), 58, 0), ((268, .lconst 0, 1, 0, 0, 0, 0), 15, 0), ((269, .iconst 1, 1, 1, 0, 0, 0), 12, 0), ((270, .invokevirtual 354, 3, 20, 4, 0, 156), 56, 0)],
  [((273, .istore_n 1, 1, 0, 0, 0, 0), 7, 1), ((274, .aload_n 0, 1, 0, 0, 0, 0), 5, 0), ((275, .ldc2_w 496, 3, 1667785074, 0, 0, 225), 58, 0), ((278, .lconst 0, 1, 0, 0, 0, 0), 15, 0), ((279, .iconst 1, 1, 1, 0, 0, 0), 12, 0), ((280, .invokevirtual 354, 3, 20, 4, 0, 156), 56, 0), ((283, .istore_n 1, 1, 0, 0, 0, 0), 7, 1), ((284, .aload_n 0, 1, 0, 0, 0, 0), 5, 0), ((285, .ldc2_w 498, 3, 7497072, 0, 0, 226), 58, 0)],
  [((288, .lconst 0, 1, 0, 0, 0, 0), 15, 0), ((289, .iconst 1, 1, 1, 0, 0, 0), 12, 0), ((290, .invokevirtual 354, 3, 20, 4, 0, 156), 56, 0), ((293, .istore_n 1, 1, 0, 0, 0, 0), 7, 1), ((294, .aload_n 0, 1, 0, 0, 0, 0), 5, 0), ((295, .ldc2_w 500, 3, 26479, 0, 0, 227), 58, 0), ((298, .lconst 0, 1, 0, 0, 0, 0), 15, 0), ((299, .iconst 1, 1, 1, 0, 0, 0), 12, 0), ((300, .invokevirtual 354, 3, 20, 4, 0, 156), 56, 0), ((303, .istore_n 1, 1, 0, 0, 0, 0), 7, 1)],
  [((304, .aload_n 0, 1, 0, 0, 0, 0), 5, 0), ((305, .ldc2_w 502, 3, 1937010544, 0, 0, 228), 58, 0), ((308, .lconst 0, 1, 0, 0, 0, 0), 15, 0), ((309, .iconst 1, 1, 1, 0, 0, 0), 12, 0), ((310, .invokevirtual 354, 3, 20, 4, 0, 156), 56, 0), ((313, .istore_n 1, 1, 0, 0, 0, 0), 7, 1), ((314, .aload_n 0, 1, 0, 0, 0, 0), 5, 0), ((315, .ldc2_w 504, 3, 495873782885, 0, 0, 229), 58, 0), ((318, .lconst 0, 1, 0, 0, 0, 0), 15, 0), ((319, .iconst 1, 1, 1, 0, 0, 0), 12, 0)],
  [((320, .invokevirtual 354, 3, 20, 4, 0, 156), 56, 0), ((323, .istore_n 1, 1, 0, 0, 0, 0), 7, 1), ((324, .return_, 1, 0, 0, 0, 0), 1000, 0)]])
def al_mX12_hidden : ev_MeK := (al_yX12_hidden, prog_14_method_7_code, 6, (some .int), [[((0, .aload_n 0, 1, 0, 0, 0, 0), 5, 0), ((1, .iconst 0, 1, 0, 0, 0, 0), 12, 0), ((2, .putfield 338, 3, 0, 20, 0, 230), 51, 0), ((5, .aload_n 0, 1, 0, 0, 0, 0), 5, 0), ((6, .lload_n 1, 1, 0, 0, 0, 0), 3, 1), ((7, .invokevirtual 345, 3, 21, 2, 0, 231), 56, 0), ((10, .aload_n 0, 1, 0, 0, 0, 0), 5, 0), ((11, .lload_n 3, 1, 0, 0, 0, 0), 3, 3), ((12, .invokevirtual 345, 3, 21, 2, 0, 231), 56, 0), ((15, .aload_n 0, 1, 0, 0, 0, 0), 5, 0)],
  [((16, .iload 5, 2, 0, 0, 0, 0), 0, 5), ((18, .invokevirtual 349, 3, 22, 2, 0, 232), 56, 0), ((21, .ireturn, 1, 0, 0, 0, 0), 1000, 0)]])
def al_mX12_word : ev_MeK := (al_yX12_word, prog_14_method_6_code, 5, none, [[((0, .bipush 56, 2, 56, 0, 0, 0), 13, 0), ((2, .istore_n 3, 1, 0, 0, 0, 0), 7, 3), ((3, .iload_n 3, 1, 0, 0, 0, 0), 1, 3), ((4, .ifCond .lt 46, 3, 50, 0, 0, 0), 40, 0), ((7, .lload_n 1, 1, 0, 0, 0, 0), 3, 1), ((8, .iload_n 3, 1, 0, 0, 0, 0), 1, 3), ((9, .lushr, 1, 0, 0, 0, 0), 34, 0), ((10, .l2i, 1, 0, 0, 0, 0), 33, 0), ((11, .sipush 255, 3, 255, 0, 0, 0), 14, 0), ((14, .iand, 1, 0, 0, 0, 0), 19, 0), ((15, .istore 4, 2, 0, 0, 0, 0), 6, 4)],
  [((17, .iload 4, 2, 0, 0, 0, 0), 0, 4), ((19, .ifCond .le 25, 3, 44, 0, 0, 0), 43, 0), ((22, .aload_n 0, 1, 0, 0, 0, 0), 5, 0), ((23, .getfield 33, 3, 0, 19, 20, 50), 50, 0), ((26, .aload_n 0, 1, 0, 0, 0, 0), 5, 0), ((27, .getfield 338, 3, 0, 20, 0, 230), 50, 0), ((30, .iload 4, 2, 0, 0, 0, 0), 0, 4)],
  [((32, .i2b, 1, 0, 0, 0, 0), 24, 0), ((33, .bastore, 1, 0, 0, 0, 0), 55, 0), ((34, .aload_n 0, 1, 0, 0, 0, 0), 5, 0), ((35, .dup, 1, 0, 0, 0, 0), 35, 0), ((36, .getfield 338, 3, 0, 20, 0, 230), 50, 0), ((39, .iconst 1, 1, 1, 0, 0, 0), 12, 0), ((40, .iadd, 1, 0, 0, 0, 0), 16, 0), ((41, .putfield 338, 3, 0, 20, 0, 230), 51, 0), ((44, .iinc 3 (-8), 3, 4294967288, 0, 0, 0), 36, 3), ((47, .goto (-44), 3, 3, 0, 0, 0), 37, 0)],
  [((50, .return_, 1, 0, 0, 0, 0), 1000, 0)]])
def al_mX12_intern : ev_MeK := (al_yX12_intern, prog_14_method_4_code, 6, (some .int), [[((0, .aload_n 0, 1, 0, 0, 0, 0), 5, 0), ((1, .aload_n 0, 1, 0, 0, 0, 0), 5, 0), ((2, .getfield 338, 3, 0, 20, 0, 230), 50, 0), ((5, .invokevirtual 341, 3, 23, 2, 0, 233), 56, 0), ((8, .istore_n 2, 1, 0, 0, 0, 0), 7, 2), ((9, .aload_n 0, 1, 0, 0, 0, 0), 5, 0), ((10, .getfield 30, 3, 0, 13, 20, 49), 50, 0), ((13, .iload_n 2, 1, 0, 0, 0, 0), 1, 2), ((14, .iaload, 1, 0, 0, 0, 0), 52, 0), ((15, .istore_n 3, 1, 0, 0, 0, 0), 7, 3)],
  [((16, .iload_n 3, 1, 0, 0, 0, 0), 1, 3), ((17, .ifCond .lt 115, 3, 132, 0, 0, 0), 40, 0), ((20, .aload_n 0, 1, 0, 0, 0, 0), 5, 0), ((21, .getfield 21, 3, 0, 10, 20, 46), 50, 0), ((24, .iload_n 3, 1, 0, 0, 0, 0), 1, 3), ((25, .iaload, 1, 0, 0, 0, 0), 52, 0), ((26, .aload_n 0, 1, 0, 0, 0, 0), 5, 0), ((27, .getfield 338, 3, 0, 20, 0, 230), 50, 0), ((30, .if_icmp .ne 7, 3, 37, 0, 0, 0), 45, 0)],
  [((33, .iconst 1, 1, 1, 0, 0, 0), 12, 0), ((34, .goto 4, 3, 38, 0, 0, 0), 37, 0), ((37, .iconst 0, 1, 0, 0, 0, 0), 12, 0), ((38, .istore 4, 2, 0, 0, 0, 0), 6, 4), ((40, .iconst 0, 1, 0, 0, 0, 0), 12, 0), ((41, .istore 5, 2, 0, 0, 0, 0), 6, 5), ((43, .iload 5, 2, 0, 0, 0, 0), 0, 5), ((45, .aload_n 0, 1, 0, 0, 0, 0), 5, 0), ((46, .getfield 338, 3, 0, 20, 0, 230), 50, 0)],
  [((49, .if_icmp .ge 45, 3, 94, 0, 0, 0), 47, 0), ((52, .iload 4, 2, 0, 0, 0, 0), 0, 4), ((54, .ifCond .eq 40, 3, 94, 0, 0, 0), 38, 0), ((57, .aload_n 0, 1, 0, 0, 0, 0), 5, 0), ((58, .getfield 14, 3, 0, 7, 20, 44), 50, 0), ((61, .aload_n 0, 1, 0, 0, 0, 0), 5, 0), ((62, .getfield 18, 3, 0, 9, 20, 45), 50, 0)],
  [((65, .iload_n 3, 1, 0, 0, 0, 0), 1, 3), ((66, .iaload, 1, 0, 0, 0, 0), 52, 0), ((67, .iload 5, 2, 0, 0, 0, 0), 0, 5), ((69, .iadd, 1, 0, 0, 0, 0), 16, 0), ((70, .baload, 1, 0, 0, 0, 0), 54, 0), ((71, .aload_n 0, 1, 0, 0, 0, 0), 5, 0), ((72, .getfield 33, 3, 0, 19, 20, 50), 50, 0), ((75, .iload 5, 2, 0, 0, 0, 0), 0, 5), ((77, .baload, 1, 0, 0, 0, 0), 54, 0), ((78, .if_icmp .ne 7, 3, 85, 0, 0, 0), 45, 0)],
  [((81, .iconst 1, 1, 1, 0, 0, 0), 12, 0), ((82, .goto 4, 3, 86, 0, 0, 0), 37, 0), ((85, .iconst 0, 1, 0, 0, 0, 0), 12, 0), ((86, .istore 4, 2, 0, 0, 0, 0), 6, 4), ((88, .iinc 5 1, 3, 1, 0, 0, 0), 36, 5), ((91, .goto (-48), 3, 43, 0, 0, 0), 37, 0), ((94, .iload 4, 2, 0, 0, 0, 0), 0, 4)],
  [((96, .ifCond .eq 26, 3, 122, 0, 0, 0), 38, 0), ((99, .aload_n 0, 1, 0, 0, 0, 0), 5, 0), ((100, .getfield 24, 3, 0, 11, 20, 47), 50, 0), ((103, .iload_n 3, 1, 0, 0, 0, 0), 1, 3), ((104, .iload_n 1, 1, 0, 0, 0, 0), 1, 1), ((105, .iconst 1, 1, 1, 0, 0, 0), 12, 0), ((106, .if_icmp .ne 7, 3, 113, 0, 0, 0), 45, 0), ((109, .iconst 1, 1, 1, 0, 0, 0), 12, 0), ((110, .goto 9, 3, 119, 0, 0, 0), 37, 0)],
  [((113, .aload_n 0, 1, 0, 0, 0, 0), 5, 0), ((114, .getfield 24, 3, 0, 11, 20, 47), 50, 0), ((117, .iload_n 3, 1, 0, 0, 0, 0), 1, 3), ((118, .iaload, 1, 0, 0, 0, 0), 52, 0), ((119, .iastore, 1, 0, 0, 0, 0), 53, 0), ((120, .iload_n 3, 1, 0, 0, 0, 0), 1, 3), ((121, .ireturn, 1, 0, 0, 0, 0), 1000, 0), ((122, .aload_n 0, 1, 0, 0, 0, 0), 5, 0), ((123, .getfield 27, 3, 0, 12, 20, 48), 50, 0), ((126, .iload_n 3, 1, 0, 0, 0, 0), 1, 3), ((127, .iaload, 1, 0, 0, 0, 0), 52, 0)],
  [((128, .istore_n 3, 1, 0, 0, 0, 0), 7, 3), ((129, .goto (-113), 3, 16, 0, 0, 0), 37, 0), ((132, .aload_n 0, 1, 0, 0, 0, 0), 5, 0), ((133, .getfield 322, 3, 0, 14, 0, 151), 50, 0), ((136, .istore_n 3, 1, 0, 0, 0, 0), 7, 3), ((137, .aload_n 0, 1, 0, 0, 0, 0), 5, 0), ((138, .dup, 1, 0, 0, 0, 0), 35, 0), ((139, .getfield 322, 3, 0, 14, 0, 151), 50, 0), ((142, .iconst 1, 1, 1, 0, 0, 0), 12, 0), ((143, .iadd, 1, 0, 0, 0, 0), 16, 0)],
  [((144, .putfield 322, 3, 0, 14, 0, 151), 51, 0), ((147, .aload_n 0, 1, 0, 0, 0, 0), 5, 0), ((148, .getfield 18, 3, 0, 9, 20, 45), 50, 0), ((151, .iload_n 3, 1, 0, 0, 0, 0), 1, 3), ((152, .aload_n 0, 1, 0, 0, 0, 0), 5, 0), ((153, .getfield 329, 3, 0, 8, 0, 153), 50, 0), ((156, .iastore, 1, 0, 0, 0, 0), 53, 0), ((157, .aload_n 0, 1, 0, 0, 0, 0), 5, 0), ((158, .getfield 21, 3, 0, 10, 20, 46), 50, 0)],
  [((161, .iload_n 3, 1, 0, 0, 0, 0), 1, 3), ((162, .aload_n 0, 1, 0, 0, 0, 0), 5, 0), ((163, .getfield 338, 3, 0, 20, 0, 230), 50, 0), ((166, .iastore, 1, 0, 0, 0, 0), 53, 0), ((167, .aload_n 0, 1, 0, 0, 0, 0), 5, 0), ((168, .getfield 24, 3, 0, 11, 20, 47), 50, 0), ((171, .iload_n 3, 1, 0, 0, 0, 0), 1, 3), ((172, .iload_n 1, 1, 0, 0, 0, 0), 1, 1), ((173, .iastore, 1, 0, 0, 0, 0), 53, 0), ((174, .aload_n 0, 1, 0, 0, 0, 0), 5, 0), ((175, .getfield 27, 3, 0, 12, 20, 48), 50, 0)],
  [((178, .iload_n 3, 1, 0, 0, 0, 0), 1, 3), ((179, .aload_n 0, 1, 0, 0, 0, 0), 5, 0), ((180, .getfield 30, 3, 0, 13, 20, 49), 50, 0), ((183, .iload_n 2, 1, 0, 0, 0, 0), 1, 2), ((184, .iaload, 1, 0, 0, 0, 0), 52, 0), ((185, .iastore, 1, 0, 0, 0, 0), 53, 0), ((186, .aload_n 0, 1, 0, 0, 0, 0), 5, 0), ((187, .getfield 30, 3, 0, 13, 20, 49), 50, 0), ((190, .iload_n 2, 1, 0, 0, 0, 0), 1, 2), ((191, .iload_n 3, 1, 0, 0, 0, 0), 1, 3)],
  [((192, .iastore, 1, 0, 0, 0, 0), 53, 0), ((193, .iconst 0, 1, 0, 0, 0, 0), 12, 0), ((194, .istore 4, 2, 0, 0, 0, 0), 6, 4), ((196, .iload 4, 2, 0, 0, 0, 0), 0, 4), ((198, .aload_n 0, 1, 0, 0, 0, 0), 5, 0), ((199, .getfield 338, 3, 0, 20, 0, 230), 50, 0), ((202, .if_icmp .ge 28, 3, 230, 0, 0, 0), 47, 0), ((205, .aload_n 0, 1, 0, 0, 0, 0), 5, 0), ((206, .getfield 14, 3, 0, 7, 20, 44), 50, 0)],
  [((209, .aload_n 0, 1, 0, 0, 0, 0), 5, 0), ((210, .getfield 329, 3, 0, 8, 0, 153), 50, 0), ((213, .iload 4, 2, 0, 0, 0, 0), 0, 4), ((215, .iadd, 1, 0, 0, 0, 0), 16, 0), ((216, .aload_n 0, 1, 0, 0, 0, 0), 5, 0), ((217, .getfield 33, 3, 0, 19, 20, 50), 50, 0), ((220, .iload 4, 2, 0, 0, 0, 0), 0, 4), ((222, .baload, 1, 0, 0, 0, 0), 54, 0), ((223, .bastore, 1, 0, 0, 0, 0), 55, 0)],
  [((224, .iinc 4 1, 3, 1, 0, 0, 0), 36, 4), ((227, .goto (-31), 3, 196, 0, 0, 0), 37, 0), ((230, .aload_n 0, 1, 0, 0, 0, 0), 5, 0), ((231, .aload_n 0, 1, 0, 0, 0, 0), 5, 0), ((232, .getfield 329, 3, 0, 8, 0, 153), 50, 0), ((235, .aload_n 0, 1, 0, 0, 0, 0), 5, 0), ((236, .getfield 338, 3, 0, 20, 0, 230), 50, 0), ((239, .iadd, 1, 0, 0, 0, 0), 16, 0)],
  [((240, .putfield 329, 3, 0, 8, 0, 153), 51, 0), ((243, .iload_n 3, 1, 0, 0, 0, 0), 1, 3), ((244, .ireturn, 1, 0, 0, 0, 0), 1000, 0)]])
def al_mX12_hashOf : ev_MeK := (al_yX12_hashOf, prog_14_method_3_code, 4, (some .int), [[((0, .iload_n 1, 1, 0, 0, 0, 0), 1, 1), ((1, .istore_n 2, 1, 0, 0, 0, 0), 7, 2), ((2, .iconst 0, 1, 0, 0, 0, 0), 12, 0), ((3, .istore_n 3, 1, 0, 0, 0, 0), 7, 3), ((4, .iload_n 3, 1, 0, 0, 0, 0), 1, 3), ((5, .iload_n 1, 1, 0, 0, 0, 0), 1, 1), ((6, .if_icmp .ge 21, 3, 27, 0, 0, 0), 47, 0), ((9, .bipush 31, 2, 31, 0, 0, 0), 13, 0), ((11, .iload_n 2, 1, 0, 0, 0, 0), 1, 2), ((12, .imul, 1, 0, 0, 0, 0), 18, 0), ((13, .aload_n 0, 1, 0, 0, 0, 0), 5, 0), ((14, .getfield 33, 3, 0, 19, 20, 50), 50, 0)],
  [((17, .iload_n 3, 1, 0, 0, 0, 0), 1, 3), ((18, .baload, 1, 0, 0, 0, 0), 54, 0), ((19, .iadd, 1, 0, 0, 0, 0), 16, 0), ((20, .istore_n 2, 1, 0, 0, 0, 0), 7, 2), ((21, .iinc 3 1, 3, 1, 0, 0, 0), 36, 3), ((24, .goto (-20), 3, 4, 0, 0, 0), 37, 0), ((27, .iload_n 2, 1, 0, 0, 0, 0), 1, 2), ((28, .iload_n 2, 1, 0, 0, 0, 0), 1, 2), ((29, .bipush 10, 2, 10, 0, 0, 0), 13, 0), ((31, .iushr, 1, 0, 0, 0, 0), 22, 0)],
  [((32, .ixor, 1, 0, 0, 0, 0), 21, 0), ((33, .sipush 1023, 3, 1023, 0, 0, 0), 14, 0), ((36, .iand, 1, 0, 0, 0, 0), 19, 0), ((37, .ireturn, 1, 0, 0, 0, 0), 1000, 0)]])
def al_mX12_compile : ev_MeK := (al_yX12_compile, prog_14_method_106_code, 2, (some .int), [[((0, .aload_n 0, 1, 0, 0, 0, 0), 5, 0), ((1, .iconst 0, 1, 0, 0, 0, 0), 12, 0), ((2, .putfield 335, 3, 0, 0, 0, 234), 51, 0), ((5, .aload_n 0, 1, 0, 0, 0, 0), 5, 0), ((6, .iconst 0, 1, 0, 0, 0, 0), 12, 0), ((7, .putfield 509, 3, 0, 3, 2, 235), 51, 0), ((10, .aload_n 0, 1, 0, 0, 0, 0), 5, 0), ((11, .aload_n 0, 1, 0, 0, 0, 0), 5, 0), ((12, .getfield 326, 3, 0, 65, 0, 152), 50, 0), ((15, .aload_n 0, 1, 0, 0, 0, 0), 5, 0)],
  [((16, .getfield 332, 3, 0, 66, 0, 154), 50, 0), ((19, .invokevirtual 910, 3, 25, 3, 0, 236), 56, 0), ((22, .iconst 0, 1, 0, 0, 0, 0), 12, 0), ((23, .istore_n 1, 1, 0, 0, 0, 0), 7, 1), ((24, .iload_n 1, 1, 0, 0, 0, 0), 1, 1), ((25, .aload_n 0, 1, 0, 0, 0, 0), 5, 0), ((26, .getfield 326, 3, 0, 65, 0, 152), 50, 0), ((29, .if_icmp .ge 44, 3, 73, 0, 0, 0), 47, 0)],
  [((32, .aload_n 0, 1, 0, 0, 0, 0), 5, 0), ((33, .getfield 24, 3, 0, 11, 20, 47), 50, 0), ((36, .iload_n 1, 1, 0, 0, 0, 0), 1, 1), ((37, .iload_n 1, 1, 0, 0, 0, 0), 1, 1), ((38, .bipush 29, 2, 29, 0, 0, 0), 13, 0), ((40, .if_icmp .eq 21, 3, 61, 0, 0, 0), 44, 0), ((43, .iload_n 1, 1, 0, 0, 0, 0), 1, 1), ((44, .bipush 31, 2, 31, 0, 0, 0), 13, 0), ((46, .if_icmp .eq 15, 3, 61, 0, 0, 0), 44, 0)],
  [((49, .iload_n 1, 1, 0, 0, 0, 0), 1, 1), ((50, .bipush 36, 2, 36, 0, 0, 0), 13, 0), ((52, .if_icmp .eq 9, 3, 61, 0, 0, 0), 44, 0), ((55, .iload_n 1, 1, 0, 0, 0, 0), 1, 1), ((56, .bipush 37, 2, 37, 0, 0, 0), 13, 0), ((58, .if_icmp .lt 7, 3, 65, 0, 0, 0), 46, 0), ((61, .iconst 1, 1, 1, 0, 0, 0), 12, 0), ((62, .goto 4, 3, 66, 0, 0, 0), 37, 0)],
  [((65, .iconst 0, 1, 0, 0, 0, 0), 12, 0), ((66, .iastore, 1, 0, 0, 0, 0), 53, 0), ((67, .iinc 1 1, 3, 1, 0, 0, 0), 36, 1), ((70, .goto (-46), 3, 24, 0, 0, 0), 37, 0), ((73, .aload_n 0, 1, 0, 0, 0, 0), 5, 0), ((74, .iconst 0, 1, 0, 0, 0, 0), 12, 0), ((75, .putfield 618, 3, 0, 4, 0, 237), 51, 0), ((78, .aload_n 0, 1, 0, 0, 0, 0), 5, 0), ((79, .invokevirtual 913, 3, 26, 1, 0, 238), 56, 0)],
  [((82, .aload_n 0, 1, 0, 0, 0, 0), 5, 0), ((83, .invokevirtual 916, 3, 29, 1, 0, 239), 56, 0), ((86, .ifCond .ne 21, 3, 107, 0, 0, 0), 39, 0), ((89, .aload_n 0, 1, 0, 0, 0, 0), 5, 0), ((90, .aload_n 0, 1, 0, 0, 0, 0), 5, 0), ((91, .aload_n 0, 1, 0, 0, 0, 0), 5, 0), ((92, .getfield 621, 3, 0, 5, 0, 240), 50, 0)],
  [((98, .putfield 919, 3, 0, 6, 0, 241), 51, 0), ((101, .aload_n 0, 1, 0, 0, 0, 0), 5, 0), ((102, .getfield 618, 3, 0, 4, 0, 237), 50, 0), ((105, .ineg, 1, 0, 0, 0, 0), 23, 0), ((106, .ireturn, 1, 0, 0, 0, 0), 1000, 0), ((107, .aload_n 0, 1, 0, 0, 0, 0), 5, 0), ((108, .aload_n 0, 1, 0, 0, 0, 0), 5, 0), ((109, .getfield 322, 3, 0, 14, 0, 151), 50, 0)],
  [((112, .putfield 922, 3, 0, 15, 0, 242), 51, 0), ((115, .aload_n 0, 1, 0, 0, 0, 0), 5, 0), ((116, .aload_n 0, 1, 0, 0, 0, 0), 5, 0), ((117, .getfield 329, 3, 0, 8, 0, 153), 50, 0), ((120, .putfield 925, 3, 0, 16, 0, 243), 51, 0), ((123, .aload_n 0, 1, 0, 0, 0, 0), 5, 0), ((124, .iconst 1, 1, 1, 0, 0, 0), 12, 0), ((125, .putfield 509, 3, 0, 3, 2, 235), 51, 0)],
  [((128, .aload_n 0, 1, 0, 0, 0, 0), 5, 0), ((129, .invokevirtual 928, 3, 38, 1, 0, 244), 56, 0), ((132, .aload_n 0, 1, 0, 0, 0, 0), 5, 0), ((133, .getfield 784, 3, 0, 34, 0, 245), 50, 0), ((136, .ireturn, 1, 0, 0, 0, 0), 1000, 0)]])
def al_mX12_forgetFrom : ev_MeK := (al_yX12_forgetFrom, prog_14_method_5_code, 4, none, [[((0, .aload_n 0, 1, 0, 0, 0, 0), 5, 0), ((1, .getfield 322, 3, 0, 14, 0, 151), 50, 0), ((4, .iload_n 1, 1, 0, 0, 0, 0), 1, 1), ((5, .if_icmp .le 66, 3, 71, 0, 0, 0), 49, 0), ((8, .aload_n 0, 1, 0, 0, 0, 0), 5, 0), ((9, .dup, 1, 0, 0, 0, 0), 35, 0), ((10, .getfield 322, 3, 0, 14, 0, 151), 50, 0), ((13, .iconst 1, 1, 1, 0, 0, 0), 12, 0), ((14, .isub, 1, 0, 0, 0, 0), 17, 0), ((15, .putfield 322, 3, 0, 14, 0, 151), 51, 0)],
  [((18, .iconst 0, 1, 0, 0, 0, 0), 12, 0), ((19, .istore_n 3, 1, 0, 0, 0, 0), 7, 3), ((20, .iload_n 3, 1, 0, 0, 0, 0), 1, 3), ((21, .sipush 1024, 3, 1024, 0, 0, 0), 14, 0), ((24, .if_icmp .ge 22, 3, 46, 0, 0, 0), 47, 0), ((27, .aload_n 0, 1, 0, 0, 0, 0), 5, 0), ((28, .getfield 30, 3, 0, 13, 20, 49), 50, 0), ((31, .iload_n 3, 1, 0, 0, 0, 0), 1, 3)],
  [((32, .iaload, 1, 0, 0, 0, 0), 52, 0), ((33, .aload_n 0, 1, 0, 0, 0, 0), 5, 0), ((34, .getfield 322, 3, 0, 14, 0, 151), 50, 0), ((37, .if_icmp .eq 9, 3, 46, 0, 0, 0), 44, 0), ((40, .iinc 3 1, 3, 1, 0, 0, 0), 36, 3), ((43, .goto (-23), 3, 20, 0, 0, 0), 37, 0), ((46, .iload_n 3, 1, 0, 0, 0, 0), 1, 3), ((47, .sipush 1024, 3, 1024, 0, 0, 0), 14, 0)],
  [((50, .if_icmp .ge 18, 3, 68, 0, 0, 0), 47, 0), ((53, .aload_n 0, 1, 0, 0, 0, 0), 5, 0), ((54, .getfield 30, 3, 0, 13, 20, 49), 50, 0), ((57, .iload_n 3, 1, 0, 0, 0, 0), 1, 3), ((58, .aload_n 0, 1, 0, 0, 0, 0), 5, 0), ((59, .getfield 27, 3, 0, 12, 20, 48), 50, 0), ((62, .aload_n 0, 1, 0, 0, 0, 0), 5, 0), ((63, .getfield 322, 3, 0, 14, 0, 151), 50, 0)],
  [((66, .iaload, 1, 0, 0, 0, 0), 52, 0), ((67, .iastore, 1, 0, 0, 0, 0), 53, 0), ((68, .goto (-68), 3, 0, 0, 0, 0), 37, 0), ((71, .aload_n 0, 1, 0, 0, 0, 0), 5, 0), ((72, .iload_n 2, 1, 0, 0, 0, 0), 1, 2), ((73, .putfield 329, 3, 0, 8, 0, 153), 51, 0), ((76, .return_, 1, 0, 0, 0, 0), 1000, 0)]])
def al_mX12_readTokens : ev_MeK := (al_yX12_readTokens, prog_14_method_28_code, 4, none, [[((0, .aload_n 0, 1, 0, 0, 0, 0), 5, 0), ((1, .iconst 0, 1, 0, 0, 0, 0), 12, 0), ((2, .putfield 599, 3, 0, 24, 0, 246), 51, 0), ((5, .aload_n 0, 1, 0, 0, 0, 0), 5, 0), ((6, .iconst 0, 1, 0, 0, 0, 0), 12, 0), ((7, .invokevirtual 602, 3, 27, 2, 0, 247), 56, 0), ((10, .istore_n 1, 1, 0, 0, 0, 0), 7, 1), ((11, .iconst 1, 1, 1, 0, 0, 0), 12, 0), ((12, .istore_n 2, 1, 0, 0, 0, 0), 7, 2), ((13, .iload_n 2, 1, 0, 0, 0, 0), 1, 2), ((14, .ifCond .eq 177, 3, 191, 0, 0, 0), 38, 0)],
  [((17, .aload_n 0, 1, 0, 0, 0, 0), 5, 0), ((18, .iload_n 1, 1, 0, 0, 0, 0), 1, 1), ((19, .invokevirtual 517, 3, 28, 2, 0, 248), 56, 0), ((22, .istore_n 3, 1, 0, 0, 0, 0), 7, 3), ((23, .iload_n 3, 1, 0, 0, 0, 0), 1, 3), ((24, .ifCond .ge 12, 3, 36, 0, 0, 0), 41, 0), ((27, .aload_n 0, 1, 0, 0, 0, 0), 5, 0), ((28, .bipush 6, 2, 6, 0, 0, 0), 13, 0), ((30, .putfield 572, 3, 0, 67, 0, 249), 51, 0)],
  [((33, .goto 58, 3, 91, 0, 0, 0), 37, 0), ((36, .iload_n 3, 1, 0, 0, 0, 0), 1, 3), ((40, .ifCond .eq 11, 3, 51, 0, 0, 0), 38, 0), ((43, .aload_n 0, 1, 0, 0, 0, 0), 5, 0), ((44, .iload_n 1, 1, 0, 0, 0, 0), 1, 1)],
  [((48, .goto 43, 3, 91, 0, 0, 0), 37, 0), ((51, .iload_n 3, 1, 0, 0, 0, 0), 1, 3), ((55, .ifCond .eq 11, 3, 66, 0, 0, 0), 38, 0), ((58, .aload_n 0, 1, 0, 0, 0, 0), 5, 0), ((59, .iload_n 1, 1, 0, 0, 0, 0), 1, 1), ((63, .goto 28, 3, 91, 0, 0, 0), 37, 0)],
  [((66, .iload_n 3, 1, 0, 0, 0, 0), 1, 3), ((67, .bipush 34, 2, 34, 0, 0, 0), 13, 0), ((69, .if_icmp .eq 9, 3, 78, 0, 0, 0), 44, 0), ((72, .iload_n 3, 1, 0, 0, 0, 0), 1, 3), ((73, .bipush 39, 2, 39, 0, 0, 0), 13, 0), ((75, .if_icmp .ne 11, 3, 86, 0, 0, 0), 45, 0), ((78, .aload_n 0, 1, 0, 0, 0, 0), 5, 0), ((79, .iload_n 1, 1, 0, 0, 0, 0), 1, 1)],
  [((83, .goto 8, 3, 91, 0, 0, 0), 37, 0), ((86, .aload_n 0, 1, 0, 0, 0, 0), 5, 0), ((87, .iload_n 1, 1, 0, 0, 0, 0), 1, 1), ((91, .aload_n 0, 1, 0, 0, 0, 0), 5, 0), ((92, .getfield 36, 3, 0, 21, 20, 51), 50, 0), ((95, .aload_n 0, 1, 0, 0, 0, 0), 5, 0)],
  [((96, .getfield 599, 3, 0, 24, 0, 246), 50, 0), ((99, .aload_n 0, 1, 0, 0, 0, 0), 5, 0), ((100, .getfield 572, 3, 0, 67, 0, 249), 50, 0), ((103, .iastore, 1, 0, 0, 0, 0), 53, 0), ((104, .aload_n 0, 1, 0, 0, 0, 0), 5, 0), ((105, .getfield 39, 3, 0, 22, 20, 52), 50, 0), ((108, .aload_n 0, 1, 0, 0, 0, 0), 5, 0), ((109, .getfield 599, 3, 0, 24, 0, 246), 50, 0)],
  [((112, .iload_n 1, 1, 0, 0, 0, 0), 1, 1), ((113, .iastore, 1, 0, 0, 0, 0), 53, 0), ((114, .aload_n 0, 1, 0, 0, 0, 0), 5, 0), ((115, .getfield 42, 3, 0, 23, 20, 54), 50, 0), ((118, .aload_n 0, 1, 0, 0, 0, 0), 5, 0), ((119, .getfield 599, 3, 0, 24, 0, 246), 50, 0), ((122, .aload_n 0, 1, 0, 0, 0, 0), 5, 0), ((123, .getfield 575, 3, 0, 68, 10, 250), 50, 0), ((126, .lastore, 1, 0, 0, 0, 0), 58, 0), ((127, .aload_n 0, 1, 0, 0, 0, 0), 5, 0)],
  [((128, .dup, 1, 0, 0, 0, 0), 35, 0), ((129, .getfield 599, 3, 0, 24, 0, 246), 50, 0), ((132, .iconst 1, 1, 1, 0, 0, 0), 12, 0), ((133, .iadd, 1, 0, 0, 0, 0), 16, 0), ((134, .putfield 599, 3, 0, 24, 0, 246), 51, 0), ((137, .aload_n 0, 1, 0, 0, 0, 0), 5, 0), ((138, .getfield 572, 3, 0, 67, 0, 249), 50, 0), ((141, .bipush 6, 2, 6, 0, 0, 0), 13, 0), ((143, .if_icmp .eq 26, 3, 169, 0, 0, 0), 44, 0)],
  [((146, .aload_n 0, 1, 0, 0, 0, 0), 5, 0), ((147, .getfield 572, 3, 0, 67, 0, 249), 50, 0), ((150, .bipush 7, 2, 7, 0, 0, 0), 13, 0), ((152, .if_icmp .eq 17, 3, 169, 0, 0, 0), 44, 0), ((155, .aload_n 0, 1, 0, 0, 0, 0), 5, 0), ((156, .getfield 599, 3, 0, 24, 0, 246), 50, 0), ((159, .sipush 1500, 3, 1500, 0, 0, 0), 14, 0)],
  [((162, .if_icmp .gt 7, 3, 169, 0, 0, 0), 48, 0), ((165, .iconst 1, 1, 1, 0, 0, 0), 12, 0), ((166, .goto 4, 3, 170, 0, 0, 0), 37, 0), ((169, .iconst 0, 1, 0, 0, 0, 0), 12, 0), ((170, .istore_n 2, 1, 0, 0, 0, 0), 7, 2), ((171, .iload_n 2, 1, 0, 0, 0, 0), 1, 2), ((172, .ifCond .eq 14, 3, 186, 0, 0, 0), 38, 0), ((175, .aload_n 0, 1, 0, 0, 0, 0), 5, 0)],
  [((176, .aload_n 0, 1, 0, 0, 0, 0), 5, 0), ((177, .getfield 565, 3, 0, 69, 0, 251), 50, 0), ((180, .invokevirtual 602, 3, 27, 2, 0, 247), 56, 0), ((183, .goto 4, 3, 187, 0, 0, 0), 37, 0), ((186, .iload_n 1, 1, 0, 0, 0, 0), 1, 1), ((187, .istore_n 1, 1, 0, 0, 0, 0), 7, 1), ((188, .goto (-175), 3, 13, 0, 0, 0), 37, 0), ((191, .return_, 1, 0, 0, 0, 0), 1000, 0)]])
def al_mX12_skip : ev_MeK := (al_yX12_skip, prog_14_method_18_code, 5, (some .int), [[((0, .iload_n 1, 1, 0, 0, 0, 0), 1, 1), ((1, .istore_n 2, 1, 0, 0, 0, 0), 7, 2), ((2, .iconst 1, 1, 1, 0, 0, 0), 12, 0), ((3, .istore_n 3, 1, 0, 0, 0, 0), 7, 3), ((4, .iload_n 3, 1, 0, 0, 0, 0), 1, 3), ((5, .ifCond .eq 100, 3, 105, 0, 0, 0), 38, 0), ((8, .aload_n 0, 1, 0, 0, 0, 0), 5, 0), ((9, .iload_n 2, 1, 0, 0, 0, 0), 1, 2), ((10, .invokevirtual 517, 3, 28, 2, 0, 248), 56, 0), ((13, .istore 4, 2, 0, 0, 0, 0), 6, 4), ((15, .iload 4, 2, 0, 0, 0, 0), 0, 4)],
  [((17, .bipush 32, 2, 32, 0, 0, 0), 13, 0), ((19, .if_icmp .eq 24, 3, 43, 0, 0, 0), 44, 0), ((22, .iload 4, 2, 0, 0, 0, 0), 0, 4), ((24, .bipush 9, 2, 9, 0, 0, 0), 13, 0), ((26, .if_icmp .eq 17, 3, 43, 0, 0, 0), 44, 0), ((29, .iload 4, 2, 0, 0, 0, 0), 0, 4), ((31, .bipush 13, 2, 13, 0, 0, 0), 13, 0)],
  [((33, .if_icmp .eq 10, 3, 43, 0, 0, 0), 44, 0), ((36, .iload 4, 2, 0, 0, 0, 0), 0, 4), ((38, .bipush 10, 2, 10, 0, 0, 0), 13, 0), ((40, .if_icmp .ne 7, 3, 47, 0, 0, 0), 45, 0), ((43, .iconst 1, 1, 1, 0, 0, 0), 12, 0), ((44, .goto 4, 3, 48, 0, 0, 0), 37, 0), ((47, .iconst 0, 1, 0, 0, 0, 0), 12, 0)],
  [((48, .istore_n 3, 1, 0, 0, 0, 0), 7, 3), ((49, .iload 4, 2, 0, 0, 0, 0), 0, 4), ((51, .bipush 45, 2, 45, 0, 0, 0), 13, 0), ((53, .if_icmp .ne 42, 3, 95, 0, 0, 0), 45, 0), ((56, .aload_n 0, 1, 0, 0, 0, 0), 5, 0), ((57, .iload_n 2, 1, 0, 0, 0, 0), 1, 2), ((58, .iconst 1, 1, 1, 0, 0, 0), 12, 0), ((59, .iadd, 1, 0, 0, 0, 0), 16, 0), ((60, .invokevirtual 517, 3, 28, 2, 0, 248), 56, 0), ((63, .bipush 45, 2, 45, 0, 0, 0), 13, 0)],
  [((65, .if_icmp .ne 30, 3, 95, 0, 0, 0), 45, 0), ((68, .iconst 1, 1, 1, 0, 0, 0), 12, 0), ((69, .istore_n 3, 1, 0, 0, 0, 0), 7, 3), ((70, .iload_n 2, 1, 0, 0, 0, 0), 1, 2), ((71, .aload_n 0, 1, 0, 0, 0, 0), 5, 0), ((72, .getfield 506, 3, 0, 2, 0, 252), 50, 0), ((75, .if_icmp .ge 27, 3, 102, 0, 0, 0), 47, 0), ((78, .aload_n 0, 1, 0, 0, 0, 0), 5, 0), ((79, .getfield 7, 3, 0, 1, 20, 41), 50, 0)],
  [((82, .iload_n 2, 1, 0, 0, 0, 0), 1, 2), ((83, .iaload, 1, 0, 0, 0, 0), 52, 0), ((84, .bipush 10, 2, 10, 0, 0, 0), 13, 0), ((86, .if_icmp .eq 16, 3, 102, 0, 0, 0), 44, 0), ((89, .iinc 2 1, 3, 1, 0, 0, 0), 36, 2), ((92, .goto (-22), 3, 70, 0, 0, 0), 37, 0), ((95, .iload_n 3, 1, 0, 0, 0, 0), 1, 3)],
  [((96, .ifCond .eq 6, 3, 102, 0, 0, 0), 38, 0), ((99, .iinc 2 1, 3, 1, 0, 0, 0), 36, 2), ((102, .goto (-98), 3, 4, 0, 0, 0), 37, 0), ((105, .iload_n 2, 1, 0, 0, 0, 0), 1, 2), ((106, .ireturn, 1, 0, 0, 0, 0), 1000, 0)]])
def al_mX12_at : ev_MeK := (al_yX12_at, prog_14_method_13_code, 2, (some .int), [[((0, .iload_n 1, 1, 0, 0, 0, 0), 1, 1), ((1, .aload_n 0, 1, 0, 0, 0, 0), 5, 0), ((2, .getfield 506, 3, 0, 2, 0, 252), 50, 0), ((5, .if_icmp .ge 12, 3, 17, 0, 0, 0), 47, 0), ((8, .aload_n 0, 1, 0, 0, 0, 0), 5, 0), ((9, .getfield 7, 3, 0, 1, 20, 41), 50, 0), ((12, .iload_n 1, 1, 0, 0, 0, 0), 1, 1), ((13, .iaload, 1, 0, 0, 0, 0), 52, 0), ((14, .goto 4, 3, 18, 0, 0, 0), 37, 0)],
  [((17, .iconst (-1), 1, 4294967295, 0, 0, 0), 12, 0), ((18, .ireturn, 1, 0, 0, 0, 0), 1000, 0)]])
def al_mX12_readText : ev_MeK := (al_yX12_readText, prog_14_method_105_code, 3, (some .boolean), [[((0, .aload_n 0, 1, 0, 0, 0, 0), 5, 0), ((1, .iconst 0, 1, 0, 0, 0, 0), 12, 0), ((2, .putfield 624, 3, 0, 25, 0, 253), 51, 0), ((5, .aload_n 0, 1, 0, 0, 0, 0), 5, 0), ((6, .iconst 0, 1, 0, 0, 0, 0), 12, 0), ((7, .putfield 654, 3, 0, 46, 0, 254), 51, 0), ((10, .aload_n 0, 1, 0, 0, 0, 0), 5, 0), ((11, .iconst 0, 1, 0, 0, 0, 0), 12, 0), ((12, .putfield 657, 3, 0, 47, 0, 255), 51, 0), ((15, .aload_n 0, 1, 0, 0, 0, 0), 5, 0)],
  [((16, .iconst 0, 1, 0, 0, 0, 0), 12, 0), ((17, .putfield 666, 3, 0, 50, 0, 256), 51, 0), ((20, .aload_n 0, 1, 0, 0, 0, 0), 5, 0), ((21, .iconst 0, 1, 0, 0, 0, 0), 12, 0), ((22, .putfield 660, 3, 0, 53, 0, 257), 51, 0), ((25, .aload_n 0, 1, 0, 0, 0, 0), 5, 0), ((26, .getfield 104, 3, 0, 51, 20, 75), 50, 0), ((29, .iconst 0, 1, 0, 0, 0, 0), 12, 0), ((30, .iconst 0, 1, 0, 0, 0, 0), 12, 0), ((31, .iastore, 1, 0, 0, 0, 0), 53, 0)],
  [((32, .aload_n 0, 1, 0, 0, 0, 0), 5, 0), ((33, .getfield 107, 3, 0, 52, 20, 76), 50, 0), ((36, .iconst 0, 1, 0, 0, 0, 0), 12, 0), ((37, .iconst 0, 1, 0, 0, 0, 0), 12, 0), ((38, .iastore, 1, 0, 0, 0, 0), 53, 0), ((39, .aload_n 0, 1, 0, 0, 0, 0), 5, 0), ((40, .iconst 0, 1, 0, 0, 0, 0), 12, 0), ((41, .putfield 726, 3, 0, 56, 0, 258), 51, 0), ((44, .aload_n 0, 1, 0, 0, 0, 0), 5, 0), ((45, .iconst 0, 1, 0, 0, 0, 0), 12, 0), ((46, .putfield 705, 3, 0, 60, 0, 259), 51, 0)],
  [((49, .aload_n 0, 1, 0, 0, 0, 0), 5, 0), ((50, .iconst 0, 1, 0, 0, 0, 0), 12, 0), ((51, .putfield 651, 3, 0, 41, 0, 260), 51, 0), ((54, .aload_n 0, 1, 0, 0, 0, 0), 5, 0), ((55, .iconst 0, 1, 0, 0, 0, 0), 12, 0), ((56, .putfield 758, 3, 0, 40, 0, 261), 51, 0), ((59, .aload_n 0, 1, 0, 0, 0, 0), 5, 0), ((60, .iconst 1, 1, 1, 0, 0, 0), 12, 0), ((61, .putfield 784, 3, 0, 34, 0, 245), 51, 0)],
  [((64, .aload_n 0, 1, 0, 0, 0, 0), 5, 0), ((65, .getfield 52, 3, 0, 28, 20, 57), 50, 0), ((68, .iconst 0, 1, 0, 0, 0, 0), 12, 0), ((69, .iconst 0, 1, 0, 0, 0, 0), 12, 0), ((70, .iastore, 1, 0, 0, 0, 0), 53, 0), ((71, .aload_n 0, 1, 0, 0, 0, 0), 5, 0), ((72, .getfield 55, 3, 0, 29, 20, 58), 50, 0), ((75, .iconst 0, 1, 0, 0, 0, 0), 12, 0), ((76, .iconst 0, 1, 0, 0, 0, 0), 12, 0), ((77, .iastore, 1, 0, 0, 0, 0), 53, 0), ((78, .aload_n 0, 1, 0, 0, 0, 0), 5, 0), ((79, .getfield 49, 3, 0, 27, 20, 56), 50, 0)],
  [((82, .iconst 0, 1, 0, 0, 0, 0), 12, 0), ((83, .iconst 0, 1, 0, 0, 0, 0), 12, 0), ((84, .iastore, 1, 0, 0, 0, 0), 53, 0), ((85, .aload_n 0, 1, 0, 0, 0, 0), 5, 0), ((86, .getfield 58, 3, 0, 30, 20, 60), 50, 0), ((89, .iconst 0, 1, 0, 0, 0, 0), 12, 0), ((90, .iconst 1, 1, 1, 0, 0, 0), 12, 0), ((91, .bastore, 1, 0, 0, 0, 0), 55, 0), ((92, .aload_n 0, 1, 0, 0, 0, 0), 5, 0), ((93, .getfield 62, 3, 0, 31, 20, 61), 50, 0)],
  [((96, .iconst 0, 1, 0, 0, 0, 0), 12, 0), ((97, .iconst 0, 1, 0, 0, 0, 0), 12, 0), ((98, .iastore, 1, 0, 0, 0, 0), 53, 0), ((99, .aload_n 0, 1, 0, 0, 0, 0), 5, 0), ((100, .getfield 46, 3, 0, 26, 20, 55), 50, 0), ((103, .iconst 0, 1, 0, 0, 0, 0), 12, 0), ((104, .iconst 0, 1, 0, 0, 0, 0), 12, 0), ((105, .iastore, 1, 0, 0, 0, 0), 53, 0), ((106, .aload_n 0, 1, 0, 0, 0, 0), 5, 0), ((107, .iconst 0, 1, 0, 0, 0, 0), 12, 0), ((108, .iconst 0, 1, 0, 0, 0, 0), 12, 0), ((109, .iconst 0, 1, 0, 0, 0, 0), 12, 0), ((110, .iconst 0, 1, 0, 0, 0, 0), 12, 0), ((111, .invokevirtual 682, 3, 30, 5, 0, 262), 56, 0)],
  [((114, .istore_n 1, 1, 0, 0, 0, 0), 7, 1), ((115, .aload_n 0, 1, 0, 0, 0, 0), 5, 0), ((116, .bipush 42, 2, 42, 0, 0, 0), 13, 0), ((118, .iconst 0, 1, 0, 0, 0, 0), 12, 0), ((119, .iconst 0, 1, 0, 0, 0, 0), 12, 0), ((120, .iconst 0, 1, 0, 0, 0, 0), 12, 0), ((121, .invokevirtual 686, 3, 31, 5, 0, 263), 56, 0), ((124, .aload_n 0, 1, 0, 0, 0, 0), 5, 0), ((125, .iconst 0, 1, 0, 0, 0, 0), 12, 0), ((126, .iconst 0, 1, 0, 0, 0, 0), 12, 0), ((127, .iconst 0, 1, 0, 0, 0, 0), 12, 0)],
  [((128, .iconst 0, 1, 0, 0, 0, 0), 12, 0), ((129, .invokevirtual 686, 3, 31, 5, 0, 263), 56, 0), ((132, .iconst 1, 1, 1, 0, 0, 0), 12, 0), ((133, .istore_n 2, 1, 0, 0, 0, 0), 7, 2), ((134, .aload_n 0, 1, 0, 0, 0, 0), 5, 0), ((135, .getfield 654, 3, 0, 46, 0, 254), 50, 0), ((138, .ifCond .le 76, 3, 214, 0, 0, 0), 43, 0), ((141, .iload_n 2, 1, 0, 0, 0, 0), 1, 2), ((142, .ifCond .eq 72, 3, 214, 0, 0, 0), 38, 0)],
  [((145, .aload_n 0, 1, 0, 0, 0, 0), 5, 0), ((146, .dup, 1, 0, 0, 0, 0), 35, 0), ((147, .getfield 654, 3, 0, 46, 0, 254), 50, 0), ((150, .iconst 1, 1, 1, 0, 0, 0), 12, 0), ((151, .isub, 1, 0, 0, 0, 0), 17, 0), ((152, .putfield 654, 3, 0, 46, 0, 254), 51, 0), ((155, .aload_n 0, 1, 0, 0, 0, 0), 5, 0), ((156, .aload_n 0, 1, 0, 0, 0, 0), 5, 0), ((157, .getfield 86, 3, 0, 42, 20, 69), 50, 0)],
  [((160, .aload_n 0, 1, 0, 0, 0, 0), 5, 0), ((161, .getfield 654, 3, 0, 46, 0, 254), 50, 0), ((164, .iaload, 1, 0, 0, 0, 0), 52, 0), ((165, .aload_n 0, 1, 0, 0, 0, 0), 5, 0), ((166, .getfield 89, 3, 0, 43, 20, 70), 50, 0), ((169, .aload_n 0, 1, 0, 0, 0, 0), 5, 0), ((170, .getfield 654, 3, 0, 46, 0, 254), 50, 0), ((173, .iaload, 1, 0, 0, 0, 0), 52, 0), ((174, .aload_n 0, 1, 0, 0, 0, 0), 5, 0), ((175, .getfield 92, 3, 0, 44, 20, 71), 50, 0)],
  [((178, .aload_n 0, 1, 0, 0, 0, 0), 5, 0), ((179, .getfield 654, 3, 0, 46, 0, 254), 50, 0), ((182, .iaload, 1, 0, 0, 0, 0), 52, 0), ((183, .aload_n 0, 1, 0, 0, 0, 0), 5, 0), ((184, .getfield 95, 3, 0, 45, 20, 72), 50, 0), ((187, .aload_n 0, 1, 0, 0, 0, 0), 5, 0), ((188, .getfield 654, 3, 0, 46, 0, 254), 50, 0), ((191, .iaload, 1, 0, 0, 0, 0), 52, 0)],
  [((192, .invokevirtual 907, 3, 32, 5, 0, 264), 56, 0), ((195, .ifCond .eq 14, 3, 209, 0, 0, 0), 38, 0), ((198, .aload_n 0, 1, 0, 0, 0, 0), 5, 0), ((199, .getfield 618, 3, 0, 4, 0, 237), 50, 0), ((202, .ifCond .ne 7, 3, 209, 0, 0, 0), 39, 0), ((205, .iconst 1, 1, 1, 0, 0, 0), 12, 0), ((206, .goto 4, 3, 210, 0, 0, 0), 37, 0)],
  [((209, .iconst 0, 1, 0, 0, 0, 0), 12, 0), ((210, .istore_n 2, 1, 0, 0, 0, 0), 7, 2), ((211, .goto (-77), 3, 134, 0, 0, 0), 37, 0), ((214, .aload_n 0, 1, 0, 0, 0, 0), 5, 0), ((215, .bipush 14, 2, 14, 0, 0, 0), 13, 0), ((217, .iconst 0, 1, 0, 0, 0, 0), 12, 0), ((218, .iconst 0, 1, 0, 0, 0, 0), 12, 0), ((219, .iconst 0, 1, 0, 0, 0, 0), 12, 0), ((220, .invokevirtual 682, 3, 30, 5, 0, 262), 56, 0), ((223, .istore_n 1, 1, 0, 0, 0, 0), 7, 1)],
  [((224, .aload_n 0, 1, 0, 0, 0, 0), 5, 0), ((225, .bipush 38, 2, 38, 0, 0, 0), 13, 0), ((227, .iconst 0, 1, 0, 0, 0, 0), 12, 0), ((228, .iconst 0, 1, 0, 0, 0, 0), 12, 0), ((229, .iconst 0, 1, 0, 0, 0, 0), 12, 0), ((230, .invokevirtual 682, 3, 30, 5, 0, 262), 56, 0), ((233, .istore_n 1, 1, 0, 0, 0, 0), 7, 1), ((234, .iload_n 2, 1, 0, 0, 0, 0), 1, 2), ((235, .ireturn, 1, 0, 0, 0, 0), 1000, 0)]])
def al_mX12_emit : ev_MeK := (al_yX12_emit, prog_14_method_38_code, 5, (some .int), [[((0, .aload_n 0, 1, 0, 0, 0, 0), 5, 0), ((1, .getfield 71, 3, 0, 35, 20, 64), 50, 0), ((4, .aload_n 0, 1, 0, 0, 0, 0), 5, 0), ((5, .getfield 651, 3, 0, 41, 0, 260), 50, 0), ((8, .iload_n 1, 1, 0, 0, 0, 0), 1, 1), ((9, .iastore, 1, 0, 0, 0, 0), 53, 0), ((10, .aload_n 0, 1, 0, 0, 0, 0), 5, 0), ((11, .getfield 74, 3, 0, 36, 20, 65), 50, 0), ((14, .aload_n 0, 1, 0, 0, 0, 0), 5, 0), ((15, .getfield 651, 3, 0, 41, 0, 260), 50, 0)],
  [((18, .iload_n 2, 1, 0, 0, 0, 0), 1, 2), ((19, .iastore, 1, 0, 0, 0, 0), 53, 0), ((20, .aload_n 0, 1, 0, 0, 0, 0), 5, 0), ((21, .getfield 77, 3, 0, 37, 20, 66), 50, 0), ((24, .aload_n 0, 1, 0, 0, 0, 0), 5, 0), ((25, .getfield 651, 3, 0, 41, 0, 260), 50, 0), ((28, .iload_n 3, 1, 0, 0, 0, 0), 1, 3), ((29, .iastore, 1, 0, 0, 0, 0), 53, 0), ((30, .aload_n 0, 1, 0, 0, 0, 0), 5, 0), ((31, .getfield 80, 3, 0, 38, 20, 67), 50, 0)],
  [((34, .aload_n 0, 1, 0, 0, 0, 0), 5, 0), ((35, .getfield 651, 3, 0, 41, 0, 260), 50, 0), ((38, .iload 4, 2, 0, 0, 0, 0), 0, 4), ((40, .iastore, 1, 0, 0, 0, 0), 53, 0), ((41, .aload_n 0, 1, 0, 0, 0, 0), 5, 0), ((42, .dup, 1, 0, 0, 0, 0), 35, 0), ((43, .getfield 651, 3, 0, 41, 0, 260), 50, 0), ((46, .iconst 1, 1, 1, 0, 0, 0), 12, 0), ((47, .iadd, 1, 0, 0, 0, 0), 16, 0)],
  [((48, .putfield 651, 3, 0, 41, 0, 260), 51, 0), ((51, .aload_n 0, 1, 0, 0, 0, 0), 5, 0), ((52, .getfield 651, 3, 0, 41, 0, 260), 50, 0), ((55, .iconst 1, 1, 1, 0, 0, 0), 12, 0), ((56, .isub, 1, 0, 0, 0, 0), 17, 0), ((57, .ireturn, 1, 0, 0, 0, 0), 1000, 0)]])
def al_mX12_later : ev_MeK := (al_yX12_later, prog_14_method_39_code, 5, none, [[((0, .aload_n 0, 1, 0, 0, 0, 0), 5, 0), ((1, .getfield 86, 3, 0, 42, 20, 69), 50, 0), ((4, .aload_n 0, 1, 0, 0, 0, 0), 5, 0), ((5, .getfield 654, 3, 0, 46, 0, 254), 50, 0), ((8, .iload_n 1, 1, 0, 0, 0, 0), 1, 1), ((9, .iastore, 1, 0, 0, 0, 0), 53, 0), ((10, .aload_n 0, 1, 0, 0, 0, 0), 5, 0), ((11, .getfield 89, 3, 0, 43, 20, 70), 50, 0), ((14, .aload_n 0, 1, 0, 0, 0, 0), 5, 0), ((15, .getfield 654, 3, 0, 46, 0, 254), 50, 0)],
  [((18, .iload_n 2, 1, 0, 0, 0, 0), 1, 2), ((19, .iastore, 1, 0, 0, 0, 0), 53, 0), ((20, .aload_n 0, 1, 0, 0, 0, 0), 5, 0), ((21, .getfield 92, 3, 0, 44, 20, 71), 50, 0), ((24, .aload_n 0, 1, 0, 0, 0, 0), 5, 0), ((25, .getfield 654, 3, 0, 46, 0, 254), 50, 0), ((28, .iload_n 3, 1, 0, 0, 0, 0), 1, 3), ((29, .iastore, 1, 0, 0, 0, 0), 53, 0), ((30, .aload_n 0, 1, 0, 0, 0, 0), 5, 0), ((31, .getfield 95, 3, 0, 45, 20, 72), 50, 0)],
  [((34, .aload_n 0, 1, 0, 0, 0, 0), 5, 0), ((35, .getfield 654, 3, 0, 46, 0, 254), 50, 0), ((38, .iload 4, 2, 0, 0, 0, 0), 0, 4), ((40, .iastore, 1, 0, 0, 0, 0), 53, 0), ((41, .aload_n 0, 1, 0, 0, 0, 0), 5, 0), ((42, .dup, 1, 0, 0, 0, 0), 35, 0), ((43, .getfield 654, 3, 0, 46, 0, 254), 50, 0), ((46, .iconst 1, 1, 1, 0, 0, 0), 12, 0), ((47, .iadd, 1, 0, 0, 0, 0), 16, 0)],
  [((48, .putfield 654, 3, 0, 46, 0, 254), 51, 0), ((51, .return_, 1, 0, 0, 0, 0), 1000, 0)]])
def al_mX12_goOn : ev_MeK := (al_yX12_goOn, prog_14_method_103_code, 5, (some .boolean), [[((0, .iload_n 1, 1, 0, 0, 0, 0), 1, 1), ((1, .tableswitch 274 0 20 #[99, 104, 116, 123, 129, 135, 142, 151, 156, 161, 166, 172, 177, 184, 190, 196, 203, 245, 254, 261, 267], 99, 0, 0, 0, 0), 58, 0)],
  [],
  [],
  [],
  [],
  [],
  [((100, .aload_n 0, 1, 0, 0, 0, 0), 5, 0), ((101, .invokevirtual 808, 3, 33, 1, 0, 265), 56, 0), ((104, .ireturn, 1, 0, 0, 0, 0), 1000, 0), ((105, .aload_n 0, 1, 0, 0, 0, 0), 5, 0), ((106, .dup, 1, 0, 0, 0, 0), 35, 0), ((107, .getfield 657, 3, 0, 47, 0, 255), 50, 0), ((110, .iconst 1, 1, 1, 0, 0, 0), 12, 0), ((111, .isub, 1, 0, 0, 0, 0), 17, 0)],
  [((112, .putfield 657, 3, 0, 47, 0, 255), 51, 0), ((115, .iconst 1, 1, 1, 0, 0, 0), 12, 0), ((116, .ireturn, 1, 0, 0, 0, 0), 1000, 0), ((117, .aload_n 0, 1, 0, 0, 0, 0), 5, 0), ((118, .iload_n 2, 1, 0, 0, 0, 0), 1, 2), ((122, .iconst 1, 1, 1, 0, 0, 0), 12, 0), ((123, .ireturn, 1, 0, 0, 0, 0), 1000, 0), ((124, .aload_n 0, 1, 0, 0, 0, 0), 5, 0), ((125, .iload_n 2, 1, 0, 0, 0, 0), 1, 2)],
  [((129, .ireturn, 1, 0, 0, 0, 0), 1000, 0), ((130, .aload_n 0, 1, 0, 0, 0, 0), 5, 0), ((131, .iload_n 2, 1, 0, 0, 0, 0), 1, 2), ((135, .ireturn, 1, 0, 0, 0, 0), 1000, 0), ((136, .aload_n 0, 1, 0, 0, 0, 0), 5, 0), ((137, .iload_n 2, 1, 0, 0, 0, 0), 1, 2), ((138, .iload_n 3, 1, 0, 0, 0, 0), 1, 3), ((142, .ireturn, 1, 0, 0, 0, 0), 1000, 0), ((143, .aload_n 0, 1, 0, 0, 0, 0), 5, 0)],
  [((144, .iload_n 2, 1, 0, 0, 0, 0), 1, 2), ((145, .iload_n 3, 1, 0, 0, 0, 0), 1, 3), ((146, .iload 4, 2, 0, 0, 0, 0), 0, 4), ((151, .ireturn, 1, 0, 0, 0, 0), 1000, 0), ((152, .aload_n 0, 1, 0, 0, 0, 0), 5, 0), ((156, .ireturn, 1, 0, 0, 0, 0), 1000, 0), ((157, .aload_n 0, 1, 0, 0, 0, 0), 5, 0)],
  [((161, .ireturn, 1, 0, 0, 0, 0), 1000, 0), ((162, .aload_n 0, 1, 0, 0, 0, 0), 5, 0), ((166, .ireturn, 1, 0, 0, 0, 0), 1000, 0), ((167, .aload_n 0, 1, 0, 0, 0, 0), 5, 0), ((168, .iload_n 2, 1, 0, 0, 0, 0), 1, 2), ((172, .ireturn, 1, 0, 0, 0, 0), 1000, 0), ((173, .aload_n 0, 1, 0, 0, 0, 0), 5, 0)],
  [((177, .ireturn, 1, 0, 0, 0, 0), 1000, 0), ((178, .aload_n 0, 1, 0, 0, 0, 0), 5, 0), ((179, .bipush 41, 2, 41, 0, 0, 0), 13, 0), ((184, .ireturn, 1, 0, 0, 0, 0), 1000, 0), ((185, .aload_n 0, 1, 0, 0, 0, 0), 5, 0), ((186, .iload_n 2, 1, 0, 0, 0, 0), 1, 2), ((190, .ireturn, 1, 0, 0, 0, 0), 1000, 0), ((191, .aload_n 0, 1, 0, 0, 0, 0), 5, 0)],
  [((192, .iload_n 2, 1, 0, 0, 0, 0), 1, 2), ((196, .ireturn, 1, 0, 0, 0, 0), 1000, 0), ((197, .aload_n 0, 1, 0, 0, 0, 0), 5, 0), ((198, .iload_n 2, 1, 0, 0, 0, 0), 1, 2), ((199, .iload_n 3, 1, 0, 0, 0, 0), 1, 3), ((203, .ireturn, 1, 0, 0, 0, 0), 1000, 0), ((204, .aload_n 0, 1, 0, 0, 0, 0), 5, 0), ((205, .bipush 17, 2, 17, 0, 0, 0), 13, 0), ((207, .iload_n 2, 1, 0, 0, 0, 0), 1, 2)],
  [((208, .iload_n 3, 1, 0, 0, 0, 0), 1, 3), ((209, .iload 4, 2, 0, 0, 0, 0), 0, 4), ((211, .invokevirtual 686, 3, 31, 5, 0, 263), 56, 0), ((214, .aload_n 0, 1, 0, 0, 0, 0), 5, 0), ((215, .iconst 3, 1, 3, 0, 0, 0), 12, 0), ((216, .iconst 0, 1, 0, 0, 0, 0), 12, 0), ((217, .iconst 0, 1, 0, 0, 0, 0), 12, 0), ((218, .iconst 0, 1, 0, 0, 0, 0), 12, 0), ((219, .invokevirtual 686, 3, 31, 5, 0, 263), 56, 0), ((222, .aload_n 0, 1, 0, 0, 0, 0), 5, 0), ((223, .bipush 93, 2, 93, 0, 0, 0), 13, 0)],
  [((228, .ifCond .eq 16, 3, 244, 0, 0, 0), 38, 0), ((231, .aload_n 0, 1, 0, 0, 0, 0), 5, 0), ((232, .bipush 61, 2, 61, 0, 0, 0), 13, 0), ((237, .ifCond .eq 7, 3, 244, 0, 0, 0), 38, 0)],
  [((240, .iconst 1, 1, 1, 0, 0, 0), 12, 0), ((241, .goto 4, 3, 245, 0, 0, 0), 37, 0), ((244, .iconst 0, 1, 0, 0, 0, 0), 12, 0), ((245, .ireturn, 1, 0, 0, 0, 0), 1000, 0), ((246, .aload_n 0, 1, 0, 0, 0, 0), 5, 0), ((247, .iload_n 2, 1, 0, 0, 0, 0), 1, 2), ((248, .iload_n 3, 1, 0, 0, 0, 0), 1, 3), ((249, .iload 4, 2, 0, 0, 0, 0), 0, 4), ((254, .ireturn, 1, 0, 0, 0, 0), 1000, 0), ((255, .aload_n 0, 1, 0, 0, 0, 0), 5, 0)],
  [((256, .iload_n 2, 1, 0, 0, 0, 0), 1, 2), ((257, .iload_n 3, 1, 0, 0, 0, 0), 1, 3), ((261, .ireturn, 1, 0, 0, 0, 0), 1000, 0), ((262, .aload_n 0, 1, 0, 0, 0, 0), 5, 0), ((263, .iload_n 2, 1, 0, 0, 0, 0), 1, 2), ((267, .ireturn, 1, 0, 0, 0, 0), 1000, 0), ((268, .aload_n 0, 1, 0, 0, 0, 0), 5, 0), ((269, .iload_n 2, 1, 0, 0, 0, 0), 1, 2), ((270, .iload_n 3, 1, 0, 0, 0, 0), 1, 3)],
  [((274, .ireturn, 1, 0, 0, 0, 0), 1000, 0), ((275, .aload_n 0, 1, 0, 0, 0, 0), 5, 0), ((276, .iload_n 1, 1, 0, 0, 0, 0), 1, 1), ((277, .iload_n 2, 1, 0, 0, 0, 0), 1, 2), ((278, .iload_n 3, 1, 0, 0, 0, 0), 1, 3), ((279, .iload 4, 2, 0, 0, 0, 0), 0, 4), ((281, .invokevirtual 859, 3, 37, 5, 0, 266), 56, 0), ((284, .ireturn, 1, 0, 0, 0, 0), 1000, 0)]])
def al_mX12_readBlock : ev_MeK := (al_yX12_readBlock, prog_14_method_51_code, 3, (some .boolean), [[((0, .aload_n 0, 1, 0, 0, 0, 0), 5, 0), ((1, .bipush 17, 2, 17, 0, 0, 0), 13, 0), ((3, .invokevirtual 645, 3, 34, 2, 0, 267), 56, 0), ((6, .ifCond .eq 71, 3, 77, 0, 0, 0), 38, 0), ((9, .aload_n 0, 1, 0, 0, 0, 0), 5, 0), ((13, .istore_n 1, 1, 0, 0, 0, 0), 7, 1), ((14, .aload_n 0, 1, 0, 0, 0, 0), 5, 0), ((15, .iconst 0, 1, 0, 0, 0, 0), 12, 0)],
  [((16, .iconst 0, 1, 0, 0, 0, 0), 12, 0), ((17, .iconst 0, 1, 0, 0, 0, 0), 12, 0), ((18, .iconst 0, 1, 0, 0, 0, 0), 12, 0), ((19, .invokevirtual 682, 3, 30, 5, 0, 262), 56, 0), ((22, .istore_n 2, 1, 0, 0, 0, 0), 7, 2), ((23, .aload_n 0, 1, 0, 0, 0, 0), 5, 0), ((24, .bipush 14, 2, 14, 0, 0, 0), 13, 0), ((26, .iconst 0, 1, 0, 0, 0, 0), 12, 0), ((27, .iconst 0, 1, 0, 0, 0, 0), 12, 0), ((28, .iconst 0, 1, 0, 0, 0, 0), 12, 0), ((29, .invokevirtual 682, 3, 30, 5, 0, 262), 56, 0)],
  [((32, .istore_n 2, 1, 0, 0, 0, 0), 7, 2), ((33, .aload_n 0, 1, 0, 0, 0, 0), 5, 0), ((37, .ifCond .ne 5, 3, 42, 0, 0, 0), 39, 0), ((40, .iconst 0, 1, 0, 0, 0, 0), 12, 0), ((41, .ireturn, 1, 0, 0, 0, 0), 1000, 0), ((42, .aload_n 0, 1, 0, 0, 0, 0), 5, 0), ((43, .bipush 37, 2, 37, 0, 0, 0), 13, 0), ((45, .iload_n 1, 1, 0, 0, 0, 0), 1, 1), ((46, .iconst 0, 1, 0, 0, 0, 0), 12, 0), ((47, .iconst 0, 1, 0, 0, 0, 0), 12, 0)],
  [((48, .invokevirtual 686, 3, 31, 5, 0, 263), 56, 0), ((51, .aload_n 0, 1, 0, 0, 0, 0), 5, 0), ((55, .ifCond .eq 20, 3, 75, 0, 0, 0), 38, 0), ((58, .aload_n 0, 1, 0, 0, 0, 0), 5, 0), ((59, .bipush 14, 2, 14, 0, 0, 0), 13, 0), ((61, .iconst 0, 1, 0, 0, 0, 0), 12, 0), ((62, .iconst 0, 1, 0, 0, 0, 0), 12, 0), ((63, .iconst 0, 1, 0, 0, 0, 0), 12, 0)],
  [((64, .invokevirtual 686, 3, 31, 5, 0, 263), 56, 0), ((67, .aload_n 0, 1, 0, 0, 0, 0), 5, 0), ((68, .iconst 3, 1, 3, 0, 0, 0), 12, 0), ((69, .iconst 0, 1, 0, 0, 0, 0), 12, 0), ((70, .iconst 0, 1, 0, 0, 0, 0), 12, 0), ((71, .iconst 0, 1, 0, 0, 0, 0), 12, 0), ((72, .invokevirtual 686, 3, 31, 5, 0, 263), 56, 0), ((75, .iconst 1, 1, 1, 0, 0, 0), 12, 0), ((76, .ireturn, 1, 0, 0, 0, 0), 1000, 0), ((77, .aload_n 0, 1, 0, 0, 0, 0), 5, 0), ((78, .invokevirtual 696, 3, 35, 1, 0, 268), 56, 0)],
  [((81, .ifCond .ne 5, 3, 86, 0, 0, 0), 39, 0), ((84, .iconst 1, 1, 1, 0, 0, 0), 12, 0), ((85, .ireturn, 1, 0, 0, 0, 0), 1000, 0), ((86, .aload_n 0, 1, 0, 0, 0, 0), 5, 0), ((87, .iconst 0, 1, 0, 0, 0, 0), 12, 0), ((88, .iconst 0, 1, 0, 0, 0, 0), 12, 0), ((89, .iconst 0, 1, 0, 0, 0, 0), 12, 0), ((90, .iconst 0, 1, 0, 0, 0, 0), 12, 0), ((91, .invokevirtual 686, 3, 31, 5, 0, 263), 56, 0), ((94, .aload_n 0, 1, 0, 0, 0, 0), 5, 0)],
  [((98, .ifCond .ne 5, 3, 103, 0, 0, 0), 39, 0), ((101, .iconst 0, 1, 0, 0, 0, 0), 12, 0), ((102, .ireturn, 1, 0, 0, 0, 0), 1000, 0), ((103, .aload_n 0, 1, 0, 0, 0, 0), 5, 0), ((104, .iconst 1, 1, 1, 0, 0, 0), 12, 0), ((105, .iconst 0, 1, 0, 0, 0, 0), 12, 0), ((106, .iconst 0, 1, 0, 0, 0, 0), 12, 0), ((107, .iconst 0, 1, 0, 0, 0, 0), 12, 0), ((108, .invokevirtual 686, 3, 31, 5, 0, 263), 56, 0), ((111, .aload_n 0, 1, 0, 0, 0, 0), 5, 0)],
  [((115, .ireturn, 1, 0, 0, 0, 0), 1000, 0)]])
def al_mX12_isWord : ev_MeK := (al_yX12_isWord, prog_14_method_34_code, 2, (some .boolean), [[((0, .aload_n 0, 1, 0, 0, 0, 0), 5, 0), ((1, .getfield 36, 3, 0, 21, 20, 51), 50, 0), ((4, .aload_n 0, 1, 0, 0, 0, 0), 5, 0), ((5, .getfield 624, 3, 0, 25, 0, 253), 50, 0), ((8, .iaload, 1, 0, 0, 0, 0), 52, 0), ((9, .iconst 4, 1, 4, 0, 0, 0), 12, 0), ((10, .if_icmp .ne 22, 3, 32, 0, 0, 0), 45, 0), ((13, .aload_n 0, 1, 0, 0, 0, 0), 5, 0), ((14, .getfield 42, 3, 0, 23, 20, 54), 50, 0)],
  [((17, .aload_n 0, 1, 0, 0, 0, 0), 5, 0), ((18, .getfield 624, 3, 0, 25, 0, 253), 50, 0), ((21, .laload, 1, 0, 0, 0, 0), 58, 0), ((22, .iload_n 1, 1, 0, 0, 0, 0), 1, 1), ((23, .i2l, 1, 0, 0, 0, 0), 26, 0), ((24, .lcmp, 1, 0, 0, 0, 0), 32, 0), ((25, .ifCond .ne 7, 3, 32, 0, 0, 0), 39, 0), ((28, .iconst 1, 1, 1, 0, 0, 0), 12, 0), ((29, .goto 4, 3, 33, 0, 0, 0), 37, 0)],
  [((32, .iconst 0, 1, 0, 0, 0, 0), 12, 0), ((33, .ireturn, 1, 0, 0, 0, 0), 1000, 0)]])
def al_mX12_beginsStatement : ev_MeK := (al_yX12_beginsStatement, prog_14_method_42_code, 2, (some .boolean), [[((0, .aload_n 0, 1, 0, 0, 0, 0), 5, 0), ((1, .getfield 36, 3, 0, 21, 20, 51), 50, 0), ((4, .aload_n 0, 1, 0, 0, 0, 0), 5, 0), ((5, .getfield 624, 3, 0, 25, 0, 253), 50, 0), ((8, .iaload, 1, 0, 0, 0, 0), 52, 0), ((9, .iconst 1, 1, 1, 0, 0, 0), 12, 0), ((10, .if_icmp .eq 21, 3, 31, 0, 0, 0), 44, 0), ((13, .aload_n 0, 1, 0, 0, 0, 0), 5, 0), ((14, .bipush 59, 2, 59, 0, 0, 0), 13, 0)],
  [((16, .invokevirtual 635, 3, 36, 2, 0, 269), 56, 0), ((19, .ifCond .ne 12, 3, 31, 0, 0, 0), 39, 0), ((22, .aload_n 0, 1, 0, 0, 0, 0), 5, 0), ((23, .bipush 40, 2, 40, 0, 0, 0), 13, 0), ((25, .invokevirtual 635, 3, 36, 2, 0, 269), 56, 0), ((28, .ifCond .eq 5, 3, 33, 0, 0, 0), 38, 0), ((31, .iconst 1, 1, 1, 0, 0, 0), 12, 0)],
  [((32, .ireturn, 1, 0, 0, 0, 0), 1000, 0), ((33, .aload_n 0, 1, 0, 0, 0, 0), 5, 0), ((34, .getfield 36, 3, 0, 21, 20, 51), 50, 0), ((37, .aload_n 0, 1, 0, 0, 0, 0), 5, 0), ((38, .getfield 624, 3, 0, 25, 0, 253), 50, 0), ((41, .iaload, 1, 0, 0, 0, 0), 52, 0), ((42, .iconst 4, 1, 4, 0, 0, 0), 12, 0), ((43, .if_icmp .ne 16, 3, 59, 0, 0, 0), 45, 0), ((46, .aload_n 0, 1, 0, 0, 0, 0), 5, 0), ((47, .getfield 42, 3, 0, 23, 20, 54), 50, 0)],
  [((50, .aload_n 0, 1, 0, 0, 0, 0), 5, 0), ((51, .getfield 624, 3, 0, 25, 0, 253), 50, 0), ((54, .laload, 1, 0, 0, 0, 0), 58, 0), ((55, .l2i, 1, 0, 0, 0, 0), 33, 0), ((56, .goto 4, 3, 60, 0, 0, 0), 37, 0), ((59, .iconst 0, 1, 0, 0, 0, 0), 12, 0), ((60, .istore_n 1, 1, 0, 0, 0, 0), 7, 1), ((61, .iload_n 1, 1, 0, 0, 0, 0), 1, 1), ((62, .iconst 3, 1, 3, 0, 0, 0), 12, 0), ((63, .if_icmp .eq 44, 3, 107, 0, 0, 0), 44, 0)],
  [((66, .iload_n 1, 1, 0, 0, 0, 0), 1, 1), ((67, .bipush 21, 2, 21, 0, 0, 0), 13, 0), ((69, .if_icmp .eq 38, 3, 107, 0, 0, 0), 44, 0), ((72, .iload_n 1, 1, 0, 0, 0, 0), 1, 1), ((73, .bipush 16, 2, 16, 0, 0, 0), 13, 0), ((75, .if_icmp .eq 32, 3, 107, 0, 0, 0), 44, 0), ((78, .iload_n 1, 1, 0, 0, 0, 0), 1, 1), ((79, .bipush 10, 2, 10, 0, 0, 0), 13, 0)],
  [((81, .if_icmp .eq 26, 3, 107, 0, 0, 0), 44, 0), ((84, .iload_n 1, 1, 0, 0, 0, 0), 1, 1), ((85, .bipush 8, 2, 8, 0, 0, 0), 13, 0), ((87, .if_icmp .eq 20, 3, 107, 0, 0, 0), 44, 0), ((90, .iload_n 1, 1, 0, 0, 0, 0), 1, 1), ((91, .bipush 9, 2, 9, 0, 0, 0), 13, 0), ((93, .if_icmp .eq 14, 3, 107, 0, 0, 0), 44, 0)],
  [((96, .iload_n 1, 1, 0, 0, 0, 0), 1, 1), ((97, .bipush 12, 2, 12, 0, 0, 0), 13, 0), ((99, .if_icmp .eq 8, 3, 107, 0, 0, 0), 44, 0), ((102, .iload_n 1, 1, 0, 0, 0, 0), 1, 1), ((103, .iconst 2, 1, 2, 0, 0, 0), 12, 0), ((104, .if_icmp .ne 7, 3, 111, 0, 0, 0), 45, 0), ((107, .iconst 1, 1, 1, 0, 0, 0), 12, 0), ((108, .goto 4, 3, 112, 0, 0, 0), 37, 0), ((111, .iconst 0, 1, 0, 0, 0, 0), 12, 0)],
  [((112, .ireturn, 1, 0, 0, 0, 0), 1000, 0)]])
def al_mX12_isSign : ev_MeK := (al_yX12_isSign, prog_14_method_33_code, 2, (some .boolean), [[((0, .aload_n 0, 1, 0, 0, 0, 0), 5, 0), ((1, .getfield 36, 3, 0, 21, 20, 51), 50, 0), ((4, .aload_n 0, 1, 0, 0, 0, 0), 5, 0), ((5, .getfield 624, 3, 0, 25, 0, 253), 50, 0), ((8, .iaload, 1, 0, 0, 0, 0), 52, 0), ((9, .iconst 5, 1, 5, 0, 0, 0), 12, 0), ((10, .if_icmp .ne 22, 3, 32, 0, 0, 0), 45, 0), ((13, .aload_n 0, 1, 0, 0, 0, 0), 5, 0), ((14, .getfield 42, 3, 0, 23, 20, 54), 50, 0)],
  [((17, .aload_n 0, 1, 0, 0, 0, 0), 5, 0), ((18, .getfield 624, 3, 0, 25, 0, 253), 50, 0), ((21, .laload, 1, 0, 0, 0, 0), 58, 0), ((22, .iload_n 1, 1, 0, 0, 0, 0), 1, 1), ((23, .i2l, 1, 0, 0, 0, 0), 26, 0), ((24, .lcmp, 1, 0, 0, 0, 0), 32, 0), ((25, .ifCond .ne 7, 3, 32, 0, 0, 0), 39, 0), ((28, .iconst 1, 1, 1, 0, 0, 0), 12, 0), ((29, .goto 4, 3, 33, 0, 0, 0), 37, 0)],
  [((32, .iconst 0, 1, 0, 0, 0, 0), 12, 0), ((33, .ireturn, 1, 0, 0, 0, 0), 1000, 0)]])
def al_mX12_goOnStatement : ev_MeK := (al_yX12_goOnStatement, prog_14_method_104_code, 6, (some .boolean), [[((0, .iload_n 1, 1, 0, 0, 0, 0), 1, 1), ((1, .tableswitch 268 21 41 #[99, 105, 112, 118, 125, 131, 137, 144, 153, 162, 169, 178, 187, 196, 205, 214, 223, 268, 229, 246, 259], 99, 0, 0, 0, 0), 58, 0)],
  [],
  [],
  [],
  [],
  [],
  [((100, .aload_n 0, 1, 0, 0, 0, 0), 5, 0), ((101, .iload_n 2, 1, 0, 0, 0, 0), 1, 2), ((105, .ireturn, 1, 0, 0, 0, 0), 1000, 0), ((106, .aload_n 0, 1, 0, 0, 0, 0), 5, 0), ((107, .iload_n 2, 1, 0, 0, 0, 0), 1, 2), ((108, .iload_n 3, 1, 0, 0, 0, 0), 1, 3)],
  [((112, .ireturn, 1, 0, 0, 0, 0), 1000, 0), ((113, .aload_n 0, 1, 0, 0, 0, 0), 5, 0), ((114, .iload_n 2, 1, 0, 0, 0, 0), 1, 2), ((118, .ireturn, 1, 0, 0, 0, 0), 1000, 0), ((119, .aload_n 0, 1, 0, 0, 0, 0), 5, 0), ((120, .iload_n 2, 1, 0, 0, 0, 0), 1, 2), ((121, .iload_n 3, 1, 0, 0, 0, 0), 1, 3), ((125, .ireturn, 1, 0, 0, 0, 0), 1000, 0), ((126, .aload_n 0, 1, 0, 0, 0, 0), 5, 0), ((127, .iload_n 2, 1, 0, 0, 0, 0), 1, 2)],
  [((131, .ireturn, 1, 0, 0, 0, 0), 1000, 0), ((132, .aload_n 0, 1, 0, 0, 0, 0), 5, 0), ((133, .iload_n 2, 1, 0, 0, 0, 0), 1, 2), ((137, .ireturn, 1, 0, 0, 0, 0), 1000, 0), ((138, .aload_n 0, 1, 0, 0, 0, 0), 5, 0), ((139, .iload_n 2, 1, 0, 0, 0, 0), 1, 2), ((140, .iload_n 3, 1, 0, 0, 0, 0), 1, 3)],
  [((144, .ireturn, 1, 0, 0, 0, 0), 1000, 0), ((145, .aload_n 0, 1, 0, 0, 0, 0), 5, 0), ((146, .iload_n 2, 1, 0, 0, 0, 0), 1, 2), ((147, .iload_n 3, 1, 0, 0, 0, 0), 1, 3), ((148, .iload 4, 2, 0, 0, 0, 0), 0, 4), ((153, .ireturn, 1, 0, 0, 0, 0), 1000, 0), ((154, .aload_n 0, 1, 0, 0, 0, 0), 5, 0), ((155, .iload_n 2, 1, 0, 0, 0, 0), 1, 2), ((156, .iload_n 3, 1, 0, 0, 0, 0), 1, 3), ((157, .iload 4, 2, 0, 0, 0, 0), 0, 4)],
  [((162, .ireturn, 1, 0, 0, 0, 0), 1000, 0), ((163, .aload_n 0, 1, 0, 0, 0, 0), 5, 0), ((164, .bipush 6, 2, 6, 0, 0, 0), 13, 0), ((169, .ireturn, 1, 0, 0, 0, 0), 1000, 0), ((170, .aload_n 0, 1, 0, 0, 0, 0), 5, 0), ((171, .iload_n 2, 1, 0, 0, 0, 0), 1, 2), ((172, .iload_n 3, 1, 0, 0, 0, 0), 1, 3), ((173, .iload 4, 2, 0, 0, 0, 0), 0, 4)],
  [((178, .ireturn, 1, 0, 0, 0, 0), 1000, 0), ((179, .aload_n 0, 1, 0, 0, 0, 0), 5, 0), ((180, .iload_n 2, 1, 0, 0, 0, 0), 1, 2), ((181, .iload_n 3, 1, 0, 0, 0, 0), 1, 3), ((182, .iload 4, 2, 0, 0, 0, 0), 0, 4), ((187, .ireturn, 1, 0, 0, 0, 0), 1000, 0), ((188, .aload_n 0, 1, 0, 0, 0, 0), 5, 0), ((189, .iload_n 2, 1, 0, 0, 0, 0), 1, 2), ((190, .iload_n 3, 1, 0, 0, 0, 0), 1, 3), ((191, .iload 4, 2, 0, 0, 0, 0), 0, 4)],
  [((196, .ireturn, 1, 0, 0, 0, 0), 1000, 0), ((197, .aload_n 0, 1, 0, 0, 0, 0), 5, 0), ((198, .iload_n 2, 1, 0, 0, 0, 0), 1, 2), ((199, .iload_n 3, 1, 0, 0, 0, 0), 1, 3), ((200, .iload 4, 2, 0, 0, 0, 0), 0, 4), ((205, .ireturn, 1, 0, 0, 0, 0), 1000, 0), ((206, .aload_n 0, 1, 0, 0, 0, 0), 5, 0), ((207, .iload_n 2, 1, 0, 0, 0, 0), 1, 2)],
  [((208, .iload_n 3, 1, 0, 0, 0, 0), 1, 3), ((209, .iload 4, 2, 0, 0, 0, 0), 0, 4), ((214, .ireturn, 1, 0, 0, 0, 0), 1000, 0), ((215, .aload_n 0, 1, 0, 0, 0, 0), 5, 0), ((216, .iload_n 2, 1, 0, 0, 0, 0), 1, 2), ((217, .iload_n 3, 1, 0, 0, 0, 0), 1, 3), ((218, .iload 4, 2, 0, 0, 0, 0), 0, 4), ((223, .ireturn, 1, 0, 0, 0, 0), 1000, 0)],
  [((224, .aload_n 0, 1, 0, 0, 0, 0), 5, 0), ((225, .iload_n 2, 1, 0, 0, 0, 0), 1, 2), ((229, .ireturn, 1, 0, 0, 0, 0), 1000, 0), ((230, .aload_n 0, 1, 0, 0, 0, 0), 5, 0), ((231, .iload_n 2, 1, 0, 0, 0, 0), 1, 2), ((232, .iload_n 3, 1, 0, 0, 0, 0), 1, 3), ((233, .iload 4, 2, 0, 0, 0, 0), 0, 4), ((235, .bipush 100, 2, 100, 0, 0, 0), 13, 0), ((237, .idiv, 1, 0, 0, 0, 0), 58, 0), ((238, .iload 4, 2, 0, 0, 0, 0), 0, 4)],
  [((240, .bipush 100, 2, 100, 0, 0, 0), 13, 0), ((242, .irem, 1, 0, 0, 0, 0), 58, 0), ((246, .ireturn, 1, 0, 0, 0, 0), 1000, 0), ((247, .aload_n 0, 1, 0, 0, 0, 0), 5, 0), ((248, .bipush 9, 2, 9, 0, 0, 0), 13, 0), ((250, .iload_n 2, 1, 0, 0, 0, 0), 1, 2), ((251, .iconst 0, 1, 0, 0, 0, 0), 12, 0), ((252, .iconst 0, 1, 0, 0, 0, 0), 12, 0), ((253, .invokevirtual 682, 3, 30, 5, 0, 262), 56, 0)],
  [((256, .istore 5, 2, 0, 0, 0, 0), 6, 5), ((258, .iconst 1, 1, 1, 0, 0, 0), 12, 0), ((259, .ireturn, 1, 0, 0, 0, 0), 1000, 0), ((260, .aload_n 0, 1, 0, 0, 0, 0), 5, 0), ((261, .iload_n 2, 1, 0, 0, 0, 0), 1, 2), ((262, .iload_n 3, 1, 0, 0, 0, 0), 1, 3), ((263, .iload 4, 2, 0, 0, 0, 0), 0, 4), ((268, .ireturn, 1, 0, 0, 0, 0), 1000, 0), ((269, .aload_n 0, 1, 0, 0, 0, 0), 5, 0), ((270, .getfield 36, 3, 0, 21, 20, 51), 50, 0)],
  [((273, .aload_n 0, 1, 0, 0, 0, 0), 5, 0), ((274, .getfield 624, 3, 0, 25, 0, 253), 50, 0), ((277, .iaload, 1, 0, 0, 0, 0), 52, 0), ((278, .bipush 6, 2, 6, 0, 0, 0), 13, 0), ((280, .if_icmp .eq 10, 3, 290, 0, 0, 0), 44, 0), ((283, .aload_n 0, 1, 0, 0, 0, 0), 5, 0), ((287, .ifCond .eq 7, 3, 294, 0, 0, 0), 38, 0)],
  [((290, .iconst 1, 1, 1, 0, 0, 0), 12, 0), ((291, .goto 4, 3, 295, 0, 0, 0), 37, 0), ((294, .iconst 0, 1, 0, 0, 0, 0), 12, 0), ((295, .ireturn, 1, 0, 0, 0, 0), 1000, 0)]])
def al_mX12_reload : ev_MeK := (al_yX12_reload, prog_14_method_237_code, 3, none, [[((0, .aload_n 0, 1, 0, 0, 0, 0), 5, 0), ((1, .invokevirtual 1489, 3, 46, 1, 0, 270), 56, 0), ((4, .aload_n 0, 1, 0, 0, 0, 0), 5, 0), ((5, .getfield 131, 3, 0, 72, 20, 84), 50, 0), ((8, .sipush 2001, 3, 2001, 0, 0, 0), 14, 0), ((11, .iconst (-1), 1, 4294967295, 0, 0, 0), 12, 0), ((12, .iastore, 1, 0, 0, 0, 0), 53, 0), ((13, .aload_n 0, 1, 0, 0, 0, 0), 5, 0), ((14, .getfield 134, 3, 0, 73, 20, 85), 50, 0)],
  [((17, .sipush 2001, 3, 2001, 0, 0, 0), 14, 0), ((20, .iconst (-1), 1, 4294967295, 0, 0, 0), 12, 0), ((21, .iastore, 1, 0, 0, 0, 0), 53, 0), ((22, .aload_n 0, 1, 0, 0, 0, 0), 5, 0), ((23, .getfield 128, 3, 0, 71, 20, 83), 50, 0), ((26, .sipush 2001, 3, 2001, 0, 0, 0), 14, 0), ((29, .iconst 0, 1, 0, 0, 0, 0), 12, 0), ((30, .iastore, 1, 0, 0, 0, 0), 53, 0), ((31, .iconst 0, 1, 0, 0, 0, 0), 12, 0)],
  [((32, .istore_n 1, 1, 0, 0, 0, 0), 7, 1), ((33, .iload_n 1, 1, 0, 0, 0, 0), 1, 1), ((34, .bipush 17, 2, 17, 0, 0, 0), 13, 0), ((36, .if_icmp .ge 24, 3, 60, 0, 0, 0), 47, 0), ((39, .aload_n 0, 1, 0, 0, 0, 0), 5, 0), ((40, .sipush 2001, 3, 2001, 0, 0, 0), 14, 0), ((43, .bipush 37, 2, 37, 0, 0, 0), 13, 0), ((45, .iload_n 1, 1, 0, 0, 0, 0), 1, 1), ((46, .iadd, 1, 0, 0, 0, 0), 16, 0), ((47, .bipush 7, 2, 7, 0, 0, 0), 13, 0)],
  [((49, .iload_n 1, 1, 0, 0, 0, 0), 1, 1), ((50, .i2l, 1, 0, 0, 0, 0), 26, 0), ((51, .invokevirtual 1492, 3, 39, 5, 0, 271), 56, 0), ((54, .iinc 1 1, 3, 1, 0, 0, 0), 36, 1), ((57, .goto (-24), 3, 33, 0, 0, 0), 37, 0), ((60, .iconst 0, 1, 0, 0, 0, 0), 12, 0), ((61, .istore_n 1, 1, 0, 0, 0, 0), 7, 1), ((62, .iload_n 1, 1, 0, 0, 0, 0), 1, 1), ((63, .iconst 3, 1, 3, 0, 0, 0), 12, 0)],
  [((64, .if_icmp .ge 29, 3, 93, 0, 0, 0), 47, 0), ((67, .aload_n 0, 1, 0, 0, 0, 0), 5, 0), ((68, .iconst 4, 1, 4, 0, 0, 0), 12, 0), ((69, .invokevirtual 1223, 3, 43, 2, 0, 272), 56, 0), ((72, .istore_n 2, 1, 0, 0, 0, 0), 7, 2), ((73, .aload_n 0, 1, 0, 0, 0, 0), 5, 0), ((74, .sipush 2001, 3, 2001, 0, 0, 0), 14, 0), ((77, .bipush 54, 2, 54, 0, 0, 0), 13, 0), ((79, .iload_n 1, 1, 0, 0, 0, 0), 1, 1)],
  [((80, .iadd, 1, 0, 0, 0, 0), 16, 0), ((81, .iconst 4, 1, 4, 0, 0, 0), 12, 0), ((82, .iload_n 2, 1, 0, 0, 0, 0), 1, 2), ((83, .i2l, 1, 0, 0, 0, 0), 26, 0), ((84, .invokevirtual 1492, 3, 39, 5, 0, 271), 56, 0), ((87, .iinc 1 1, 3, 1, 0, 0, 0), 36, 1), ((90, .goto (-28), 3, 62, 0, 0, 0), 37, 0), ((93, .bipush 17, 2, 17, 0, 0, 0), 13, 0), ((95, .istore_n 1, 1, 0, 0, 0, 0), 7, 1)],
  [((96, .iload_n 1, 1, 0, 0, 0, 0), 1, 1), ((97, .bipush 22, 2, 22, 0, 0, 0), 13, 0), ((99, .if_icmp .ge 25, 3, 124, 0, 0, 0), 47, 0), ((102, .aload_n 0, 1, 0, 0, 0, 0), 5, 0), ((103, .iconst 1, 1, 1, 0, 0, 0), 12, 0), ((104, .bipush 57, 2, 57, 0, 0, 0), 13, 0), ((106, .iload_n 1, 1, 0, 0, 0, 0), 1, 1), ((107, .iadd, 1, 0, 0, 0, 0), 16, 0), ((108, .bipush 17, 2, 17, 0, 0, 0), 13, 0), ((110, .isub, 1, 0, 0, 0, 0), 17, 0), ((111, .bipush 7, 2, 7, 0, 0, 0), 13, 0)],
  [((113, .iload_n 1, 1, 0, 0, 0, 0), 1, 1), ((114, .i2l, 1, 0, 0, 0, 0), 26, 0), ((115, .invokevirtual 1492, 3, 39, 5, 0, 271), 56, 0), ((118, .iinc 1 1, 3, 1, 0, 0, 0), 36, 1), ((121, .goto (-25), 3, 96, 0, 0, 0), 37, 0), ((124, .bipush 22, 2, 22, 0, 0, 0), 13, 0), ((126, .istore_n 1, 1, 0, 0, 0, 0), 7, 1), ((127, .iload_n 1, 1, 0, 0, 0, 0), 1, 1)],
  [((128, .bipush 26, 2, 26, 0, 0, 0), 13, 0), ((130, .if_icmp .ge 25, 3, 155, 0, 0, 0), 47, 0), ((133, .aload_n 0, 1, 0, 0, 0, 0), 5, 0), ((134, .iconst 2, 1, 2, 0, 0, 0), 12, 0), ((135, .bipush 62, 2, 62, 0, 0, 0), 13, 0), ((137, .iload_n 1, 1, 0, 0, 0, 0), 1, 1), ((138, .iadd, 1, 0, 0, 0, 0), 16, 0), ((139, .bipush 22, 2, 22, 0, 0, 0), 13, 0), ((141, .isub, 1, 0, 0, 0, 0), 17, 0), ((142, .bipush 7, 2, 7, 0, 0, 0), 13, 0)],
  [((144, .iload_n 1, 1, 0, 0, 0, 0), 1, 1), ((145, .i2l, 1, 0, 0, 0, 0), 26, 0), ((146, .invokevirtual 1492, 3, 39, 5, 0, 271), 56, 0), ((149, .iinc 1 1, 3, 1, 0, 0, 0), 36, 1), ((152, .goto (-25), 3, 127, 0, 0, 0), 37, 0), ((155, .bipush 26, 2, 26, 0, 0, 0), 13, 0), ((157, .istore_n 1, 1, 0, 0, 0, 0), 7, 1), ((158, .iload_n 1, 1, 0, 0, 0, 0), 1, 1), ((159, .bipush 31, 2, 31, 0, 0, 0), 13, 0)],
  [((161, .if_icmp .ge 47, 3, 208, 0, 0, 0), 47, 0), ((164, .aload_n 0, 1, 0, 0, 0, 0), 5, 0), ((165, .iconst 3, 1, 3, 0, 0, 0), 12, 0), ((166, .iload_n 1, 1, 0, 0, 0, 0), 1, 1), ((167, .bipush 26, 2, 26, 0, 0, 0), 13, 0), ((169, .if_icmp .ne 8, 3, 177, 0, 0, 0), 45, 0), ((172, .bipush 29, 2, 29, 0, 0, 0), 13, 0), ((174, .goto 21, 3, 195, 0, 0, 0), 37, 0)],
  [((177, .iload_n 1, 1, 0, 0, 0, 0), 1, 1), ((178, .bipush 30, 2, 30, 0, 0, 0), 13, 0), ((180, .if_icmp .ne 8, 3, 188, 0, 0, 0), 45, 0), ((183, .bipush 31, 2, 31, 0, 0, 0), 13, 0), ((185, .goto 10, 3, 195, 0, 0, 0), 37, 0), ((188, .bipush 66, 2, 66, 0, 0, 0), 13, 0), ((190, .iload_n 1, 1, 0, 0, 0, 0), 1, 1), ((191, .iadd, 1, 0, 0, 0, 0), 16, 0)],
  [((192, .bipush 27, 2, 27, 0, 0, 0), 13, 0), ((194, .isub, 1, 0, 0, 0, 0), 17, 0), ((195, .bipush 7, 2, 7, 0, 0, 0), 13, 0), ((197, .iload_n 1, 1, 0, 0, 0, 0), 1, 1), ((198, .i2l, 1, 0, 0, 0, 0), 26, 0), ((199, .invokevirtual 1492, 3, 39, 5, 0, 271), 56, 0), ((202, .iinc 1 1, 3, 1, 0, 0, 0), 36, 1), ((205, .goto (-47), 3, 158, 0, 0, 0), 37, 0)],
  [((208, .aload_n 0, 1, 0, 0, 0, 0), 5, 0), ((209, .iconst 0, 1, 0, 0, 0, 0), 12, 0), ((210, .putfield 1078, 3, 0, 111, 0, 273), 51, 0), ((213, .aload_n 0, 1, 0, 0, 0, 0), 5, 0), ((214, .getfield 187, 3, 0, 97, 20, 104), 50, 0), ((217, .iconst 0, 1, 0, 0, 0, 0), 12, 0), ((218, .iconst 2, 1, 2, 0, 0, 0), 12, 0), ((219, .iastore, 1, 0, 0, 0, 0), 53, 0), ((220, .aload_n 0, 1, 0, 0, 0, 0), 5, 0), ((221, .getfield 190, 3, 0, 98, 20, 105), 50, 0)],
  [((224, .iconst 0, 1, 0, 0, 0, 0), 12, 0), ((225, .iconst 0, 1, 0, 0, 0, 0), 12, 0), ((226, .iastore, 1, 0, 0, 0, 0), 53, 0), ((227, .aload_n 0, 1, 0, 0, 0, 0), 5, 0), ((228, .getfield 199, 3, 0, 101, 20, 108), 50, 0), ((231, .iconst 0, 1, 0, 0, 0, 0), 12, 0), ((232, .iconst 0, 1, 0, 0, 0, 0), 12, 0), ((233, .iastore, 1, 0, 0, 0, 0), 53, 0), ((234, .aload_n 0, 1, 0, 0, 0, 0), 5, 0), ((235, .getfield 202, 3, 0, 102, 20, 109), 50, 0), ((238, .iconst 0, 1, 0, 0, 0, 0), 12, 0), ((239, .iconst 0, 1, 0, 0, 0, 0), 12, 0)],
  [((240, .iastore, 1, 0, 0, 0, 0), 53, 0), ((241, .aload_n 0, 1, 0, 0, 0, 0), 5, 0), ((242, .getfield 205, 3, 0, 103, 20, 110), 50, 0), ((245, .iconst 0, 1, 0, 0, 0, 0), 12, 0), ((246, .iconst 0, 1, 0, 0, 0, 0), 12, 0), ((247, .iastore, 1, 0, 0, 0, 0), 53, 0), ((248, .aload_n 0, 1, 0, 0, 0, 0), 5, 0), ((249, .getfield 208, 3, 0, 104, 20, 111), 50, 0), ((252, .iconst 0, 1, 0, 0, 0, 0), 12, 0), ((253, .iconst 0, 1, 0, 0, 0, 0), 12, 0), ((254, .iastore, 1, 0, 0, 0, 0), 53, 0), ((255, .aload_n 0, 1, 0, 0, 0, 0), 5, 0)],
  [((256, .iconst 0, 1, 0, 0, 0, 0), 12, 0), ((257, .putfield 1090, 3, 0, 137, 0, 274), 51, 0), ((260, .aload_n 0, 1, 0, 0, 0, 0), 5, 0), ((261, .iconst 0, 1, 0, 0, 0, 0), 12, 0), ((262, .iconst (-1), 1, 4294967295, 0, 0, 0), 12, 0), ((263, .iconst 0, 1, 0, 0, 0, 0), 12, 0), ((264, .invokevirtual 1114, 3, 44, 4, 0, 275), 56, 0), ((267, .aload_n 0, 1, 0, 0, 0, 0), 5, 0), ((268, .iconst 0, 1, 0, 0, 0, 0), 12, 0), ((269, .iconst 0, 1, 0, 0, 0, 0), 12, 0), ((270, .invokevirtual 1131, 3, 45, 3, 0, 276), 56, 0)],
  [((273, .aload_n 0, 1, 0, 0, 0, 0), 5, 0), ((274, .iconst 0, 1, 0, 0, 0, 0), 12, 0), ((275, .putfield 1024, 3, 0, 129, 0, 277), 51, 0), ((278, .return_, 1, 0, 0, 0, 0), 1000, 0)]])
def al_mX12_fill : ev_MeK := (al_yX12_fill, prog_14_method_235_code, 7, none, [[((0, .aload_n 0, 1, 0, 0, 0, 0), 5, 0), ((1, .iload_n 1, 1, 0, 0, 0, 0), 1, 1), ((2, .iconst 3, 1, 3, 0, 0, 0), 12, 0), ((3, .iload_n 2, 1, 0, 0, 0, 0), 1, 2), ((4, .i2l, 1, 0, 0, 0, 0), 26, 0), ((5, .iload_n 3, 1, 0, 0, 0, 0), 1, 3), ((6, .lload 4, 2, 0, 0, 0, 0), 2, 4), ((8, .invokevirtual 1124, 3, 40, 6, 0, 278), 56, 0), ((11, .istore 6, 2, 0, 0, 0, 0), 6, 6), ((13, .return_, 1, 0, 0, 0, 0), 1000, 0)]])
def al_mX12_set : ev_MeK := (al_yX12_set, prog_14_method_125_code, 10, (some .boolean), [[((0, .aload_n 0, 1, 0, 0, 0, 0), 5, 0), ((1, .iload_n 1, 1, 0, 0, 0, 0), 1, 1), ((2, .iload_n 2, 1, 0, 0, 0, 0), 1, 2), ((3, .lload_n 3, 1, 0, 0, 0, 0), 3, 3), ((4, .invokevirtual 1046, 3, 41, 4, 0, 279), 56, 0), ((7, .istore 8, 2, 0, 0, 0, 0), 6, 8), ((9, .iload 8, 2, 0, 0, 0, 0), 0, 8), ((11, .ifCond .ge 10, 3, 21, 0, 0, 0), 41, 0), ((14, .iload 5, 2, 0, 0, 0, 0), 0, 5)],
  [((16, .ifCond .ne 5, 3, 21, 0, 0, 0), 39, 0), ((19, .iconst 1, 1, 1, 0, 0, 0), 12, 0), ((20, .ireturn, 1, 0, 0, 0, 0), 1000, 0), ((21, .iload 8, 2, 0, 0, 0, 0), 0, 8), ((23, .ifCond .ge 155, 3, 178, 0, 0, 0), 41, 0), ((26, .aload_n 0, 1, 0, 0, 0, 0), 5, 0), ((27, .getfield 1055, 3, 0, 89, 0, 280), 50, 0), ((30, .sipush 3000, 3, 3000, 0, 0, 0), 14, 0)],
  [((33, .if_icmp .ne 10, 3, 43, 0, 0, 0), 45, 0), ((36, .aload_n 0, 1, 0, 0, 0, 0), 5, 0), ((37, .iconst 4, 1, 4, 0, 0, 0), 12, 0), ((38, .putfield 937, 3, 0, 143, 0, 281), 51, 0), ((41, .iconst 0, 1, 0, 0, 0, 0), 12, 0), ((42, .ireturn, 1, 0, 0, 0, 0), 1000, 0), ((43, .aload_n 0, 1, 0, 0, 0, 0), 5, 0), ((44, .dup, 1, 0, 0, 0, 0), 35, 0), ((45, .getfield 1058, 3, 0, 88, 0, 282), 50, 0)],
  [((48, .iconst 1, 1, 1, 0, 0, 0), 12, 0), ((49, .isub, 1, 0, 0, 0, 0), 17, 0), ((50, .putfield 1058, 3, 0, 88, 0, 282), 51, 0), ((53, .aload_n 0, 1, 0, 0, 0, 0), 5, 0), ((54, .getfield 171, 3, 0, 87, 20, 98), 50, 0), ((57, .aload_n 0, 1, 0, 0, 0, 0), 5, 0), ((58, .getfield 1058, 3, 0, 88, 0, 282), 50, 0), ((61, .iaload, 1, 0, 0, 0, 0), 52, 0), ((62, .istore 8, 2, 0, 0, 0, 0), 6, 8)],
  [((64, .aload_n 0, 1, 0, 0, 0, 0), 5, 0), ((65, .dup, 1, 0, 0, 0, 0), 35, 0), ((66, .getfield 1055, 3, 0, 89, 0, 280), 50, 0), ((69, .iconst 1, 1, 1, 0, 0, 0), 12, 0), ((70, .iadd, 1, 0, 0, 0, 0), 16, 0), ((71, .putfield 1055, 3, 0, 89, 0, 280), 51, 0), ((74, .iload_n 1, 1, 0, 0, 0, 0), 1, 1), ((75, .iload_n 2, 1, 0, 0, 0, 0), 1, 2), ((76, .lload_n 3, 1, 0, 0, 0, 0), 3, 3), ((77, .invokestatic 1042, 3, 42, 3, 0, 283), 57, 0)],
  [((80, .istore 9, 2, 0, 0, 0, 0), 6, 9), ((82, .aload_n 0, 1, 0, 0, 0, 0), 5, 0), ((83, .getfield 159, 3, 0, 83, 20, 94), 50, 0), ((86, .iload 8, 2, 0, 0, 0, 0), 0, 8), ((88, .iload_n 1, 1, 0, 0, 0, 0), 1, 1), ((89, .iastore, 1, 0, 0, 0, 0), 53, 0), ((90, .aload_n 0, 1, 0, 0, 0, 0), 5, 0), ((91, .getfield 147, 3, 0, 79, 20, 90), 50, 0), ((94, .iload 8, 2, 0, 0, 0, 0), 0, 8)],
  [((96, .iload_n 2, 1, 0, 0, 0, 0), 1, 2), ((97, .iastore, 1, 0, 0, 0, 0), 53, 0), ((98, .aload_n 0, 1, 0, 0, 0, 0), 5, 0), ((99, .getfield 150, 3, 0, 80, 20, 91), 50, 0), ((102, .iload 8, 2, 0, 0, 0, 0), 0, 8), ((104, .lload_n 3, 1, 0, 0, 0, 0), 3, 3), ((105, .lastore, 1, 0, 0, 0, 0), 58, 0), ((106, .aload_n 0, 1, 0, 0, 0, 0), 5, 0), ((107, .getfield 165, 3, 0, 85, 20, 96), 50, 0), ((110, .iload 8, 2, 0, 0, 0, 0), 0, 8)],
  [((112, .aload_n 0, 1, 0, 0, 0, 0), 5, 0), ((113, .getfield 168, 3, 0, 86, 20, 97), 50, 0), ((116, .iload 9, 2, 0, 0, 0, 0), 0, 9), ((118, .iaload, 1, 0, 0, 0, 0), 52, 0), ((119, .iastore, 1, 0, 0, 0, 0), 53, 0), ((120, .aload_n 0, 1, 0, 0, 0, 0), 5, 0), ((121, .getfield 168, 3, 0, 86, 20, 97), 50, 0), ((124, .iload 9, 2, 0, 0, 0, 0), 0, 9), ((126, .iload 8, 2, 0, 0, 0, 0), 0, 8)],
  [((128, .iastore, 1, 0, 0, 0, 0), 53, 0), ((129, .aload_n 0, 1, 0, 0, 0, 0), 5, 0), ((130, .getfield 162, 3, 0, 84, 20, 95), 50, 0), ((133, .iload 8, 2, 0, 0, 0, 0), 0, 8), ((135, .iconst (-1), 1, 4294967295, 0, 0, 0), 12, 0), ((136, .iastore, 1, 0, 0, 0, 0), 53, 0), ((137, .aload_n 0, 1, 0, 0, 0, 0), 5, 0), ((138, .getfield 131, 3, 0, 72, 20, 84), 50, 0), ((141, .iload_n 1, 1, 0, 0, 0, 0), 1, 1), ((142, .iaload, 1, 0, 0, 0, 0), 52, 0), ((143, .ifCond .ge 14, 3, 157, 0, 0, 0), 41, 0)],
  [((146, .aload_n 0, 1, 0, 0, 0, 0), 5, 0), ((147, .getfield 131, 3, 0, 72, 20, 84), 50, 0), ((150, .iload_n 1, 1, 0, 0, 0, 0), 1, 1), ((151, .iload 8, 2, 0, 0, 0, 0), 0, 8), ((153, .iastore, 1, 0, 0, 0, 0), 53, 0), ((154, .goto 16, 3, 170, 0, 0, 0), 37, 0), ((157, .aload_n 0, 1, 0, 0, 0, 0), 5, 0), ((158, .getfield 162, 3, 0, 84, 20, 95), 50, 0)],
  [((161, .aload_n 0, 1, 0, 0, 0, 0), 5, 0), ((162, .getfield 134, 3, 0, 73, 20, 85), 50, 0), ((165, .iload_n 1, 1, 0, 0, 0, 0), 1, 1), ((166, .iaload, 1, 0, 0, 0, 0), 52, 0), ((167, .iload 8, 2, 0, 0, 0, 0), 0, 8), ((169, .iastore, 1, 0, 0, 0, 0), 53, 0), ((170, .aload_n 0, 1, 0, 0, 0, 0), 5, 0), ((171, .getfield 134, 3, 0, 73, 20, 85), 50, 0), ((174, .iload_n 1, 1, 0, 0, 0, 0), 1, 1), ((175, .iload 8, 2, 0, 0, 0, 0), 0, 8)],
  [((177, .iastore, 1, 0, 0, 0, 0), 53, 0), ((178, .aload_n 0, 1, 0, 0, 0, 0), 5, 0), ((179, .getfield 153, 3, 0, 81, 20, 92), 50, 0), ((182, .iload 8, 2, 0, 0, 0, 0), 0, 8), ((184, .iload 5, 2, 0, 0, 0, 0), 0, 5), ((186, .iastore, 1, 0, 0, 0, 0), 53, 0), ((187, .aload_n 0, 1, 0, 0, 0, 0), 5, 0), ((188, .getfield 156, 3, 0, 82, 20, 93), 50, 0), ((191, .iload 8, 2, 0, 0, 0, 0), 0, 8)],
  [((193, .lload 6, 2, 0, 0, 0, 0), 2, 6), ((195, .lastore, 1, 0, 0, 0, 0), 58, 0), ((196, .iconst 1, 1, 1, 0, 0, 0), 12, 0), ((197, .ireturn, 1, 0, 0, 0, 0), 1000, 0)]])
def al_mX12_placeOf : ev_MeK := (al_yX12_placeOf, prog_14_method_123_code, 6, (some .int), [[((0, .aload_n 0, 1, 0, 0, 0, 0), 5, 0), ((1, .getfield 168, 3, 0, 86, 20, 97), 50, 0), ((4, .iload_n 1, 1, 0, 0, 0, 0), 1, 1), ((5, .iload_n 2, 1, 0, 0, 0, 0), 1, 2), ((6, .lload_n 3, 1, 0, 0, 0, 0), 3, 3), ((7, .invokestatic 1042, 3, 42, 3, 0, 283), 57, 0), ((10, .iaload, 1, 0, 0, 0, 0), 52, 0), ((11, .istore 5, 2, 0, 0, 0, 0), 6, 5), ((13, .iload 5, 2, 0, 0, 0, 0), 0, 5), ((15, .ifCond .lt 52, 3, 67, 0, 0, 0), 40, 0)],
  [((18, .aload_n 0, 1, 0, 0, 0, 0), 5, 0), ((19, .getfield 159, 3, 0, 83, 20, 94), 50, 0), ((22, .iload 5, 2, 0, 0, 0, 0), 0, 5), ((24, .iaload, 1, 0, 0, 0, 0), 52, 0), ((25, .iload_n 1, 1, 0, 0, 0, 0), 1, 1), ((26, .if_icmp .ne 29, 3, 55, 0, 0, 0), 45, 0), ((29, .aload_n 0, 1, 0, 0, 0, 0), 5, 0), ((30, .getfield 147, 3, 0, 79, 20, 90), 50, 0)],
  [((33, .iload 5, 2, 0, 0, 0, 0), 0, 5), ((35, .iaload, 1, 0, 0, 0, 0), 52, 0), ((36, .iload_n 2, 1, 0, 0, 0, 0), 1, 2), ((37, .if_icmp .ne 18, 3, 55, 0, 0, 0), 45, 0), ((40, .aload_n 0, 1, 0, 0, 0, 0), 5, 0), ((41, .getfield 150, 3, 0, 80, 20, 91), 50, 0), ((44, .iload 5, 2, 0, 0, 0, 0), 0, 5), ((46, .laload, 1, 0, 0, 0, 0), 58, 0), ((47, .lload_n 3, 1, 0, 0, 0, 0), 3, 3)],
  [((48, .lcmp, 1, 0, 0, 0, 0), 32, 0), ((49, .ifCond .ne 6, 3, 55, 0, 0, 0), 39, 0), ((52, .iload 5, 2, 0, 0, 0, 0), 0, 5), ((54, .ireturn, 1, 0, 0, 0, 0), 1000, 0), ((55, .aload_n 0, 1, 0, 0, 0, 0), 5, 0), ((56, .getfield 165, 3, 0, 85, 20, 96), 50, 0), ((59, .iload 5, 2, 0, 0, 0, 0), 0, 5), ((61, .iaload, 1, 0, 0, 0, 0), 52, 0), ((62, .istore 5, 2, 0, 0, 0, 0), 6, 5)],
  [((64, .goto (-51), 3, 13, 0, 0, 0), 37, 0), ((67, .iconst (-1), 1, 4294967295, 0, 0, 0), 12, 0), ((68, .ireturn, 1, 0, 0, 0, 0), 1000, 0)]])
def al_mX12_keyHash : ev_MeK := (al_yX12_keyHash, prog_14_method_122_code, 6, (some .int), [[((0, .lload_n 2, 1, 0, 0, 0, 0), 3, 2), ((1, .ldc2_w 1036, 3, 31, 0, 0, 284), 58, 0), ((4, .lmul, 1, 0, 0, 0, 0), 29, 0), ((5, .iload_n 1, 1, 0, 0, 0, 0), 1, 1), ((6, .i2l, 1, 0, 0, 0, 0), 26, 0), ((7, .ldc2_w 1038, 3, 7, 0, 0, 285), 58, 0), ((10, .lmul, 1, 0, 0, 0, 0), 29, 0), ((11, .ladd, 1, 0, 0, 0, 0), 27, 0), ((12, .iload_n 0, 1, 0, 0, 0, 0), 1, 0), ((13, .i2l, 1, 0, 0, 0, 0), 26, 0), ((14, .ldc2_w 1040, 3, 131, 0, 0, 286), 58, 0)],
  [((17, .lmul, 1, 0, 0, 0, 0), 29, 0), ((18, .ladd, 1, 0, 0, 0, 0), 27, 0), ((19, .lstore 4, 2, 0, 0, 0, 0), 8, 4), ((21, .lload 4, 2, 0, 0, 0, 0), 2, 4), ((23, .lload 4, 2, 0, 0, 0, 0), 2, 4), ((25, .bipush 17, 2, 17, 0, 0, 0), 13, 0), ((27, .lushr, 1, 0, 0, 0, 0), 34, 0), ((28, .lxor, 1, 0, 0, 0, 0), 31, 0), ((29, .lload 4, 2, 0, 0, 0, 0), 2, 4), ((31, .bipush 34, 2, 34, 0, 0, 0), 13, 0)],
  [((33, .lushr, 1, 0, 0, 0, 0), 34, 0), ((34, .lxor, 1, 0, 0, 0, 0), 31, 0), ((35, .l2i, 1, 0, 0, 0, 0), 33, 0), ((36, .sipush 4095, 3, 4095, 0, 0, 0), 14, 0), ((39, .iand, 1, 0, 0, 0, 0), 19, 0), ((40, .ireturn, 1, 0, 0, 0, 0), 1000, 0)]])
def al_mX12_object : ev_MeK := (al_yX12_object, prog_14_method_128_code, 2, (some .int), [[((0, .aload_n 0, 1, 0, 0, 0, 0), 5, 0), ((1, .getfield 1065, 3, 0, 77, 0, 287), 50, 0), ((4, .sipush 2000, 3, 2000, 0, 0, 0), 14, 0), ((7, .if_icmp .ne 10, 3, 17, 0, 0, 0), 45, 0), ((10, .aload_n 0, 1, 0, 0, 0, 0), 5, 0), ((11, .iconst 4, 1, 4, 0, 0, 0), 12, 0), ((12, .putfield 937, 3, 0, 143, 0, 281), 51, 0), ((15, .iconst 0, 1, 0, 0, 0, 0), 12, 0)],
  [((16, .ireturn, 1, 0, 0, 0, 0), 1000, 0), ((17, .aload_n 0, 1, 0, 0, 0, 0), 5, 0), ((18, .dup, 1, 0, 0, 0, 0), 35, 0), ((19, .getfield 1065, 3, 0, 77, 0, 287), 50, 0), ((22, .iconst 1, 1, 1, 0, 0, 0), 12, 0), ((23, .iadd, 1, 0, 0, 0, 0), 16, 0), ((24, .putfield 1065, 3, 0, 77, 0, 287), 51, 0), ((27, .aload_n 0, 1, 0, 0, 0, 0), 5, 0), ((28, .getfield 125, 3, 0, 70, 20, 82), 50, 0), ((31, .aload_n 0, 1, 0, 0, 0, 0), 5, 0)],
  [((32, .getfield 1065, 3, 0, 77, 0, 287), 50, 0), ((35, .iload_n 1, 1, 0, 0, 0, 0), 1, 1), ((36, .iastore, 1, 0, 0, 0, 0), 53, 0), ((37, .aload_n 0, 1, 0, 0, 0, 0), 5, 0), ((38, .getfield 128, 3, 0, 71, 20, 83), 50, 0), ((41, .aload_n 0, 1, 0, 0, 0, 0), 5, 0), ((42, .getfield 1065, 3, 0, 77, 0, 287), 50, 0), ((45, .iconst 0, 1, 0, 0, 0, 0), 12, 0), ((46, .iastore, 1, 0, 0, 0, 0), 53, 0), ((47, .aload_n 0, 1, 0, 0, 0, 0), 5, 0)],
  [((48, .getfield 131, 3, 0, 72, 20, 84), 50, 0), ((51, .aload_n 0, 1, 0, 0, 0, 0), 5, 0), ((52, .getfield 1065, 3, 0, 77, 0, 287), 50, 0), ((55, .iconst (-1), 1, 4294967295, 0, 0, 0), 12, 0), ((56, .iastore, 1, 0, 0, 0, 0), 53, 0), ((57, .aload_n 0, 1, 0, 0, 0, 0), 5, 0), ((58, .getfield 134, 3, 0, 73, 20, 85), 50, 0), ((61, .aload_n 0, 1, 0, 0, 0, 0), 5, 0), ((62, .getfield 1065, 3, 0, 77, 0, 287), 50, 0)],
  [((65, .iconst (-1), 1, 4294967295, 0, 0, 0), 12, 0), ((66, .iastore, 1, 0, 0, 0, 0), 53, 0), ((67, .aload_n 0, 1, 0, 0, 0, 0), 5, 0), ((68, .getfield 137, 3, 0, 74, 20, 86), 50, 0), ((71, .aload_n 0, 1, 0, 0, 0, 0), 5, 0), ((72, .getfield 1065, 3, 0, 77, 0, 287), 50, 0), ((75, .lconst 0, 1, 0, 0, 0, 0), 15, 0), ((76, .lastore, 1, 0, 0, 0, 0), 58, 0), ((77, .aload_n 0, 1, 0, 0, 0, 0), 5, 0), ((78, .getfield 1065, 3, 0, 77, 0, 287), 50, 0)],
  [((81, .ireturn, 1, 0, 0, 0, 0), 1000, 0)]])
def al_mX12_how : ev_MeK := (al_yX12_how, prog_14_method_145_code, 4, none, [[((0, .aload_n 0, 1, 0, 0, 0, 0), 5, 0), ((1, .iload_n 1, 1, 0, 0, 0, 0), 1, 1), ((2, .putfield 1093, 3, 0, 130, 0, 288), 51, 0), ((5, .aload_n 0, 1, 0, 0, 0, 0), 5, 0), ((6, .iload_n 2, 1, 0, 0, 0, 0), 1, 2), ((7, .putfield 1096, 3, 0, 131, 0, 289), 51, 0), ((10, .aload_n 0, 1, 0, 0, 0, 0), 5, 0), ((11, .iload_n 3, 1, 0, 0, 0, 0), 1, 3), ((12, .putfield 1033, 3, 0, 132, 0, 290), 51, 0), ((15, .return_, 1, 0, 0, 0, 0), 1000, 0)]])
def al_mX12_openFrame : ev_MeK := (al_yX12_openFrame, prog_14_method_149_code, 5, none, [[((0, .bipush 48, 2, 48, 0, 0, 0), 13, 0), ((2, .aload_n 0, 1, 0, 0, 0, 0), 5, 0), ((3, .getfield 1078, 3, 0, 111, 0, 273), 50, 0), ((6, .imul, 1, 0, 0, 0, 0), 18, 0), ((7, .aload_n 0, 1, 0, 0, 0, 0), 5, 0), ((8, .getfield 199, 3, 0, 101, 20, 108), 50, 0), ((11, .aload_n 0, 1, 0, 0, 0, 0), 5, 0), ((12, .getfield 1078, 3, 0, 111, 0, 273), 50, 0), ((15, .iaload, 1, 0, 0, 0, 0), 52, 0)],
  [((16, .iadd, 1, 0, 0, 0, 0), 16, 0), ((17, .istore_n 3, 1, 0, 0, 0, 0), 7, 3), ((18, .aload_n 0, 1, 0, 0, 0, 0), 5, 0), ((19, .getfield 199, 3, 0, 101, 20, 108), 50, 0), ((22, .aload_n 0, 1, 0, 0, 0, 0), 5, 0), ((23, .getfield 1078, 3, 0, 111, 0, 273), 50, 0), ((26, .dup2, 1, 0, 0, 0, 0), 58, 0), ((27, .iaload, 1, 0, 0, 0, 0), 52, 0), ((28, .iconst 1, 1, 1, 0, 0, 0), 12, 0), ((29, .iadd, 1, 0, 0, 0, 0), 16, 0), ((30, .iastore, 1, 0, 0, 0, 0), 53, 0), ((31, .aload_n 0, 1, 0, 0, 0, 0), 5, 0)],
  [((32, .getfield 208, 3, 0, 104, 20, 111), 50, 0), ((35, .aload_n 0, 1, 0, 0, 0, 0), 5, 0), ((36, .getfield 1078, 3, 0, 111, 0, 273), 50, 0), ((39, .dup2, 1, 0, 0, 0, 0), 58, 0), ((40, .iaload, 1, 0, 0, 0, 0), 52, 0), ((41, .iconst 1, 1, 1, 0, 0, 0), 12, 0), ((42, .iadd, 1, 0, 0, 0, 0), 16, 0), ((43, .iastore, 1, 0, 0, 0, 0), 53, 0), ((44, .aload_n 0, 1, 0, 0, 0, 0), 5, 0), ((45, .getfield 237, 3, 0, 115, 20, 122), 50, 0)],
  [((48, .iload_n 3, 1, 0, 0, 0, 0), 1, 3), ((49, .iconst 0, 1, 0, 0, 0, 0), 12, 0), ((50, .iastore, 1, 0, 0, 0, 0), 53, 0), ((51, .aload_n 0, 1, 0, 0, 0, 0), 5, 0), ((52, .getfield 240, 3, 0, 116, 20, 123), 50, 0), ((55, .iload_n 3, 1, 0, 0, 0, 0), 1, 3), ((56, .iload_n 1, 1, 0, 0, 0, 0), 1, 1), ((57, .iastore, 1, 0, 0, 0, 0), 53, 0), ((58, .aload_n 0, 1, 0, 0, 0, 0), 5, 0), ((59, .getfield 243, 3, 0, 117, 20, 124), 50, 0), ((62, .iload_n 3, 1, 0, 0, 0, 0), 1, 3), ((63, .iload_n 2, 1, 0, 0, 0, 0), 1, 2)],
  [((64, .iastore, 1, 0, 0, 0, 0), 53, 0), ((65, .aload_n 0, 1, 0, 0, 0, 0), 5, 0), ((66, .getfield 246, 3, 0, 118, 20, 125), 50, 0), ((69, .iload_n 3, 1, 0, 0, 0, 0), 1, 3), ((70, .aload_n 0, 1, 0, 0, 0, 0), 5, 0), ((71, .getfield 46, 3, 0, 26, 20, 55), 50, 0), ((74, .iload_n 1, 1, 0, 0, 0, 0), 1, 1), ((75, .iaload, 1, 0, 0, 0, 0), 52, 0), ((76, .iastore, 1, 0, 0, 0, 0), 53, 0), ((77, .aload_n 0, 1, 0, 0, 0, 0), 5, 0), ((78, .getfield 249, 3, 0, 119, 20, 126), 50, 0)],
  [((81, .iload_n 3, 1, 0, 0, 0, 0), 1, 3), ((82, .aload_n 0, 1, 0, 0, 0, 0), 5, 0), ((83, .getfield 1093, 3, 0, 130, 0, 288), 50, 0), ((86, .iastore, 1, 0, 0, 0, 0), 53, 0), ((87, .aload_n 0, 1, 0, 0, 0, 0), 5, 0), ((88, .getfield 252, 3, 0, 120, 20, 127), 50, 0), ((91, .iload_n 3, 1, 0, 0, 0, 0), 1, 3), ((92, .aload_n 0, 1, 0, 0, 0, 0), 5, 0), ((93, .getfield 1096, 3, 0, 131, 0, 289), 50, 0)],
  [((96, .iastore, 1, 0, 0, 0, 0), 53, 0), ((97, .aload_n 0, 1, 0, 0, 0, 0), 5, 0), ((98, .getfield 255, 3, 0, 121, 20, 128), 50, 0), ((101, .iload_n 3, 1, 0, 0, 0, 0), 1, 3), ((102, .aload_n 0, 1, 0, 0, 0, 0), 5, 0), ((103, .getfield 202, 3, 0, 102, 20, 109), 50, 0), ((106, .aload_n 0, 1, 0, 0, 0, 0), 5, 0), ((107, .getfield 1078, 3, 0, 111, 0, 273), 50, 0), ((110, .iaload, 1, 0, 0, 0, 0), 52, 0), ((111, .iastore, 1, 0, 0, 0, 0), 53, 0)],
  [((112, .aload_n 0, 1, 0, 0, 0, 0), 5, 0), ((113, .getfield 258, 3, 0, 122, 20, 129), 50, 0), ((116, .iload_n 3, 1, 0, 0, 0, 0), 1, 3), ((117, .aload_n 0, 1, 0, 0, 0, 0), 5, 0), ((118, .getfield 205, 3, 0, 103, 20, 110), 50, 0), ((121, .aload_n 0, 1, 0, 0, 0, 0), 5, 0), ((122, .getfield 1078, 3, 0, 111, 0, 273), 50, 0), ((125, .iaload, 1, 0, 0, 0, 0), 52, 0), ((126, .iastore, 1, 0, 0, 0, 0), 53, 0), ((127, .aload_n 0, 1, 0, 0, 0, 0), 5, 0)],
  [((128, .getfield 261, 3, 0, 123, 20, 130), 50, 0), ((131, .iload_n 3, 1, 0, 0, 0, 0), 1, 3), ((132, .iconst 0, 1, 0, 0, 0, 0), 12, 0), ((133, .iastore, 1, 0, 0, 0, 0), 53, 0), ((134, .iconst 0, 1, 0, 0, 0, 0), 12, 0), ((135, .istore 4, 2, 0, 0, 0, 0), 6, 4), ((137, .iload 4, 2, 0, 0, 0, 0), 0, 4), ((139, .bipush 50, 2, 50, 0, 0, 0), 13, 0), ((141, .if_icmp .ge 22, 3, 163, 0, 0, 0), 47, 0)],
  [((144, .aload_n 0, 1, 0, 0, 0, 0), 5, 0), ((145, .getfield 277, 3, 0, 128, 20, 136), 50, 0), ((148, .bipush 50, 2, 50, 0, 0, 0), 13, 0), ((150, .iload_n 3, 1, 0, 0, 0, 0), 1, 3), ((151, .imul, 1, 0, 0, 0, 0), 18, 0), ((152, .iload 4, 2, 0, 0, 0, 0), 0, 4), ((154, .iadd, 1, 0, 0, 0, 0), 16, 0), ((155, .iconst (-1), 1, 4294967295, 0, 0, 0), 12, 0), ((156, .iastore, 1, 0, 0, 0, 0), 53, 0), ((157, .iinc 4 1, 3, 1, 0, 0, 0), 36, 4)],
  [((160, .goto (-23), 3, 137, 0, 0, 0), 37, 0), ((163, .iconst 0, 1, 0, 0, 0, 0), 12, 0), ((164, .istore 4, 2, 0, 0, 0, 0), 6, 4), ((166, .iload 4, 2, 0, 0, 0, 0), 0, 4), ((168, .aload_n 0, 1, 0, 0, 0, 0), 5, 0), ((169, .getfield 49, 3, 0, 27, 20, 56), 50, 0), ((172, .iload_n 1, 1, 0, 0, 0, 0), 1, 1), ((173, .iaload, 1, 0, 0, 0, 0), 52, 0), ((174, .if_icmp .ge 57, 3, 231, 0, 0, 0), 47, 0)],
  [((177, .aload_n 0, 1, 0, 0, 0, 0), 5, 0), ((178, .getfield 277, 3, 0, 128, 20, 136), 50, 0), ((181, .bipush 50, 2, 50, 0, 0, 0), 13, 0), ((183, .iload_n 3, 1, 0, 0, 0, 0), 1, 3), ((184, .imul, 1, 0, 0, 0, 0), 18, 0), ((185, .iload 4, 2, 0, 0, 0, 0), 0, 4), ((187, .iadd, 1, 0, 0, 0, 0), 16, 0), ((188, .iload 4, 2, 0, 0, 0, 0), 0, 4), ((190, .aload_n 0, 1, 0, 0, 0, 0), 5, 0), ((191, .getfield 1090, 3, 0, 137, 0, 274), 50, 0)],
  [((194, .if_icmp .ge 24, 3, 218, 0, 0, 0), 47, 0), ((197, .aload_n 0, 1, 0, 0, 0, 0), 5, 0), ((198, .aload_n 0, 1, 0, 0, 0, 0), 5, 0), ((199, .getfield 280, 3, 0, 135, 20, 137), 50, 0), ((202, .iload 4, 2, 0, 0, 0, 0), 0, 4), ((204, .iaload, 1, 0, 0, 0, 0), 52, 0), ((205, .aload_n 0, 1, 0, 0, 0, 0), 5, 0), ((206, .getfield 283, 3, 0, 136, 20, 138), 50, 0)],
  [((209, .iload 4, 2, 0, 0, 0, 0), 0, 4), ((211, .laload, 1, 0, 0, 0, 0), 58, 0), ((215, .goto 9, 3, 224, 0, 0, 0), 37, 0), ((218, .aload_n 0, 1, 0, 0, 0, 0), 5, 0), ((219, .iconst 0, 1, 0, 0, 0, 0), 12, 0), ((220, .lconst 0, 1, 0, 0, 0, 0), 15, 0)],
  [((224, .iastore, 1, 0, 0, 0, 0), 53, 0), ((225, .iinc 4 1, 3, 1, 0, 0, 0), 36, 4), ((228, .goto (-62), 3, 166, 0, 0, 0), 37, 0), ((231, .aload_n 0, 1, 0, 0, 0, 0), 5, 0), ((232, .getfield 49, 3, 0, 27, 20, 56), 50, 0), ((235, .iload_n 1, 1, 0, 0, 0, 0), 1, 1), ((236, .iaload, 1, 0, 0, 0, 0), 52, 0), ((237, .istore 4, 2, 0, 0, 0, 0), 6, 4), ((239, .iload 4, 2, 0, 0, 0, 0), 0, 4)],
  [((241, .aload_n 0, 1, 0, 0, 0, 0), 5, 0), ((242, .getfield 1090, 3, 0, 137, 0, 274), 50, 0), ((245, .if_icmp .ge 46, 3, 291, 0, 0, 0), 47, 0), ((248, .aload_n 0, 1, 0, 0, 0, 0), 5, 0), ((249, .getfield 58, 3, 0, 30, 20, 60), 50, 0), ((252, .iload_n 1, 1, 0, 0, 0, 0), 1, 1), ((253, .baload, 1, 0, 0, 0, 0), 54, 0), ((254, .ifCond .eq 37, 3, 291, 0, 0, 0), 38, 0)],
  [((257, .aload_n 0, 1, 0, 0, 0, 0), 5, 0), ((258, .aload_n 0, 1, 0, 0, 0, 0), 5, 0), ((259, .getfield 280, 3, 0, 135, 20, 137), 50, 0), ((262, .iload 4, 2, 0, 0, 0, 0), 0, 4), ((264, .iaload, 1, 0, 0, 0, 0), 52, 0), ((265, .aload_n 0, 1, 0, 0, 0, 0), 5, 0), ((266, .getfield 283, 3, 0, 136, 20, 138), 50, 0), ((269, .iload 4, 2, 0, 0, 0, 0), 0, 4), ((271, .laload, 1, 0, 0, 0, 0), 58, 0)],
  [((275, .aload_n 0, 1, 0, 0, 0, 0), 5, 0), ((276, .getfield 261, 3, 0, 123, 20, 130), 50, 0), ((279, .iload_n 3, 1, 0, 0, 0, 0), 1, 3), ((280, .dup2, 1, 0, 0, 0, 0), 58, 0), ((281, .iaload, 1, 0, 0, 0, 0), 52, 0), ((282, .iconst 1, 1, 1, 0, 0, 0), 12, 0), ((283, .iadd, 1, 0, 0, 0, 0), 16, 0), ((284, .iastore, 1, 0, 0, 0, 0), 53, 0), ((285, .iinc 4 1, 3, 1, 0, 0, 0), 36, 4)],
  [((288, .goto (-49), 3, 239, 0, 0, 0), 37, 0), ((291, .return_, 1, 0, 0, 0, 0), 1000, 0)]])
def al_mX12_forget : ev_MeK := (al_yX12_forget, prog_14_method_236_code, 2, none, [[((0, .aload_n 0, 1, 0, 0, 0, 0), 5, 0), ((1, .aload_n 0, 1, 0, 0, 0, 0), 5, 0), ((2, .getfield 922, 3, 0, 15, 0, 242), 50, 0), ((5, .aload_n 0, 1, 0, 0, 0, 0), 5, 0), ((6, .getfield 925, 3, 0, 16, 0, 243), 50, 0), ((9, .invokevirtual 910, 3, 25, 3, 0, 236), 56, 0), ((12, .iconst 0, 1, 0, 0, 0, 0), 12, 0), ((13, .istore_n 1, 1, 0, 0, 0, 0), 7, 1), ((14, .iload_n 1, 1, 0, 0, 0, 0), 1, 1), ((15, .aload_n 0, 1, 0, 0, 0, 0), 5, 0)],
  [((16, .getfield 922, 3, 0, 15, 0, 242), 50, 0), ((19, .if_icmp .ge 35, 3, 54, 0, 0, 0), 47, 0), ((22, .aload_n 0, 1, 0, 0, 0, 0), 5, 0), ((23, .getfield 24, 3, 0, 11, 20, 47), 50, 0), ((26, .iload_n 1, 1, 0, 0, 0, 0), 1, 1), ((27, .aload_n 0, 1, 0, 0, 0, 0), 5, 0), ((28, .getfield 24, 3, 0, 11, 20, 47), 50, 0), ((31, .iload_n 1, 1, 0, 0, 0, 0), 1, 1)],
  [((32, .iaload, 1, 0, 0, 0, 0), 52, 0), ((33, .iconst 2, 1, 2, 0, 0, 0), 12, 0), ((34, .if_icmp .ne 7, 3, 41, 0, 0, 0), 45, 0), ((37, .iconst 0, 1, 0, 0, 0, 0), 12, 0), ((38, .goto 9, 3, 47, 0, 0, 0), 37, 0), ((41, .aload_n 0, 1, 0, 0, 0, 0), 5, 0), ((42, .getfield 24, 3, 0, 11, 20, 47), 50, 0), ((45, .iload_n 1, 1, 0, 0, 0, 0), 1, 1), ((46, .iaload, 1, 0, 0, 0, 0), 52, 0), ((47, .iastore, 1, 0, 0, 0, 0), 53, 0)],
  [((48, .iinc 1 1, 3, 1, 0, 0, 0), 36, 1), ((51, .goto (-37), 3, 14, 0, 0, 0), 37, 0), ((54, .aload_n 0, 1, 0, 0, 0, 0), 5, 0), ((55, .iconst 0, 1, 0, 0, 0, 0), 12, 0), ((56, .putfield 931, 3, 0, 17, 0, 291), 51, 0), ((59, .aload_n 0, 1, 0, 0, 0, 0), 5, 0), ((60, .iconst 0, 1, 0, 0, 0, 0), 12, 0), ((61, .putfield 934, 3, 0, 18, 0, 292), 51, 0)],
  [((64, .iconst 0, 1, 0, 0, 0, 0), 12, 0), ((65, .istore_n 1, 1, 0, 0, 0, 0), 7, 1), ((66, .iload_n 1, 1, 0, 0, 0, 0), 1, 1), ((67, .sipush 4096, 3, 4096, 0, 0, 0), 14, 0), ((70, .if_icmp .ge 16, 3, 86, 0, 0, 0), 47, 0), ((73, .aload_n 0, 1, 0, 0, 0, 0), 5, 0), ((74, .getfield 168, 3, 0, 86, 20, 97), 50, 0), ((77, .iload_n 1, 1, 0, 0, 0, 0), 1, 1), ((78, .iconst (-1), 1, 4294967295, 0, 0, 0), 12, 0), ((79, .iastore, 1, 0, 0, 0, 0), 53, 0)],
  [((80, .iinc 1 1, 3, 1, 0, 0, 0), 36, 1), ((83, .goto (-17), 3, 66, 0, 0, 0), 37, 0), ((86, .aload_n 0, 1, 0, 0, 0, 0), 5, 0), ((87, .iconst 0, 1, 0, 0, 0, 0), 12, 0), ((88, .putfield 1058, 3, 0, 88, 0, 282), 51, 0), ((91, .sipush 2999, 3, 2999, 0, 0, 0), 14, 0), ((94, .istore_n 1, 1, 0, 0, 0, 0), 7, 1), ((95, .iload_n 1, 1, 0, 0, 0, 0), 1, 1)],
  [((96, .ifCond .lt 29, 3, 125, 0, 0, 0), 40, 0), ((99, .aload_n 0, 1, 0, 0, 0, 0), 5, 0), ((100, .getfield 171, 3, 0, 87, 20, 98), 50, 0), ((103, .aload_n 0, 1, 0, 0, 0, 0), 5, 0), ((104, .getfield 1058, 3, 0, 88, 0, 282), 50, 0), ((107, .iload_n 1, 1, 0, 0, 0, 0), 1, 1), ((108, .iastore, 1, 0, 0, 0, 0), 53, 0), ((109, .aload_n 0, 1, 0, 0, 0, 0), 5, 0), ((110, .dup, 1, 0, 0, 0, 0), 35, 0), ((111, .getfield 1058, 3, 0, 88, 0, 282), 50, 0)],
  [((114, .iconst 1, 1, 1, 0, 0, 0), 12, 0), ((115, .iadd, 1, 0, 0, 0, 0), 16, 0), ((116, .putfield 1058, 3, 0, 88, 0, 282), 51, 0), ((119, .iinc 1 (-1), 3, 4294967295, 0, 0, 0), 36, 1), ((122, .goto (-27), 3, 95, 0, 0, 0), 37, 0), ((125, .aload_n 0, 1, 0, 0, 0, 0), 5, 0), ((126, .iconst 0, 1, 0, 0, 0, 0), 12, 0), ((127, .putfield 1055, 3, 0, 89, 0, 280), 51, 0)],
  [((130, .aload_n 0, 1, 0, 0, 0, 0), 5, 0), ((131, .iconst 0, 1, 0, 0, 0, 0), 12, 0), ((132, .putfield 1071, 3, 0, 96, 0, 293), 51, 0), ((135, .ldc_w 1077, 3, 94999, 0, 0, 294), 58, 0), ((138, .istore_n 1, 1, 0, 0, 0, 0), 7, 1), ((139, .iload_n 1, 1, 0, 0, 0, 0), 1, 1), ((140, .ifCond .lt 29, 3, 169, 0, 0, 0), 40, 0), ((143, .aload_n 0, 1, 0, 0, 0, 0), 5, 0)],
  [((144, .getfield 184, 3, 0, 95, 20, 103), 50, 0), ((147, .aload_n 0, 1, 0, 0, 0, 0), 5, 0), ((148, .getfield 1071, 3, 0, 96, 0, 293), 50, 0), ((151, .iload_n 1, 1, 0, 0, 0, 0), 1, 1), ((152, .iastore, 1, 0, 0, 0, 0), 53, 0), ((153, .aload_n 0, 1, 0, 0, 0, 0), 5, 0), ((154, .dup, 1, 0, 0, 0, 0), 35, 0), ((155, .getfield 1071, 3, 0, 96, 0, 293), 50, 0), ((158, .iconst 1, 1, 1, 0, 0, 0), 12, 0), ((159, .iadd, 1, 0, 0, 0, 0), 16, 0)],
  [((160, .putfield 1071, 3, 0, 96, 0, 293), 51, 0), ((163, .iinc 1 (-1), 3, 4294967295, 0, 0, 0), 36, 1), ((166, .goto (-27), 3, 139, 0, 0, 0), 37, 0), ((169, .aload_n 0, 1, 0, 0, 0, 0), 5, 0), ((170, .iconst 0, 1, 0, 0, 0, 0), 12, 0), ((171, .putfield 1065, 3, 0, 77, 0, 287), 51, 0), ((174, .aload_n 0, 1, 0, 0, 0, 0), 5, 0), ((175, .lconst 0, 1, 0, 0, 0, 0), 15, 0)],
  [((176, .putfield 1342, 3, 0, 78, 10, 295), 51, 0), ((179, .aload_n 0, 1, 0, 0, 0, 0), 5, 0), ((180, .iconst 0, 1, 0, 0, 0, 0), 12, 0), ((181, .putfield 1068, 3, 0, 110, 0, 296), 51, 0), ((184, .aload_n 0, 1, 0, 0, 0, 0), 5, 0), ((185, .iconst 0, 1, 0, 0, 0, 0), 12, 0), ((186, .putfield 1468, 3, 0, 152, 0, 297), 51, 0), ((189, .aload_n 0, 1, 0, 0, 0, 0), 5, 0), ((190, .iconst 0, 1, 0, 0, 0, 0), 12, 0), ((191, .putfield 1486, 3, 0, 153, 0, 298), 51, 0)],
  [((194, .aload_n 0, 1, 0, 0, 0, 0), 5, 0), ((195, .iconst 0, 1, 0, 0, 0, 0), 12, 0), ((196, .putfield 1324, 3, 0, 150, 0, 299), 51, 0), ((199, .aload_n 0, 1, 0, 0, 0, 0), 5, 0), ((200, .lconst 0, 1, 0, 0, 0, 0), 15, 0), ((201, .putfield 1233, 3, 0, 145, 10, 300), 51, 0), ((204, .aload_n 0, 1, 0, 0, 0, 0), 5, 0), ((205, .iconst 0, 1, 0, 0, 0, 0), 12, 0), ((206, .putfield 937, 3, 0, 143, 0, 281), 51, 0)],
  [((209, .aload_n 0, 1, 0, 0, 0, 0), 5, 0), ((210, .iconst 0, 1, 0, 0, 0, 0), 12, 0), ((211, .putfield 1167, 3, 0, 148, 0, 301), 51, 0), ((214, .return_, 1, 0, 0, 0, 0), 1000, 0)]])
def al_mX11_init : ev_MeK := (al_yX11_init, prog_1_method_1_code, 1, none, [[((0, .aload_n 0, 1, 0, 0, 0, 0), 5, 0), ((1, .invokespecial 1, 3, 0, 0, 0, 302), 58, 0), ((4, .aload_n 0, 1, 0, 0, 0, 0), 5, 0), ((5, .sipush 6000, 3, 6000, 0, 0, 0), 14, 0), ((8, .newarray .byte, 2, 1, 0, 0, 43), 58, 0), ((10, .putfield 9, 3, 3, 0, 20, 305), 51, 0), ((13, .aload_n 0, 1, 0, 0, 0, 0), 5, 0), ((14, .new 13, 3, 4, 16, 0, 306), 58, 0)],
  [((17, .dup, 1, 0, 0, 0, 0), 35, 0), ((18, .invokespecial 15, 3, 50, 1, 0, 309), 58, 0), ((21, .putfield 16, 3, 3, 1, 20, 310), 51, 0), ((24, .aload_n 0, 1, 0, 0, 0, 0), 5, 0), ((25, .new 20, 3, 5, 15, 0, 311), 58, 0), ((28, .dup, 1, 0, 0, 0, 0), 35, 0), ((29, .invokespecial 22, 3, 55, 1, 0, 314), 58, 0)],
  [((32, .putfield 23, 3, 3, 2, 20, 315), 51, 0), ((35, .aload_n 0, 1, 0, 0, 0, 0), 5, 0), ((36, .new 27, 3, 6, 17, 0, 316), 58, 0), ((39, .dup, 1, 0, 0, 0, 0), 35, 0), ((40, .invokespecial 29, 3, 59, 1, 0, 319), 58, 0), ((43, .putfield 30, 3, 3, 3, 20, 320), 51, 0), ((46, .aload_n 0, 1, 0, 0, 0, 0), 5, 0), ((47, .new 34, 3, 7, 12, 0, 321), 58, 0)],
  [((50, .dup, 1, 0, 0, 0, 0), 35, 0), ((51, .invokespecial 36, 3, 65, 1, 0, 324), 58, 0), ((54, .putfield 37, 3, 3, 4, 20, 325), 51, 0), ((57, .aload_n 0, 1, 0, 0, 0, 0), 5, 0), ((58, .iconst (-1), 1, 4294967295, 0, 0, 0), 12, 0), ((59, .putfield 41, 3, 3, 10, 0, 326), 51, 0), ((62, .aload_n 0, 1, 0, 0, 0, 0), 5, 0), ((63, .iconst (-1), 1, 4294967295, 0, 0, 0), 12, 0)],
  [((64, .putfield 45, 3, 3, 11, 0, 327), 51, 0), ((67, .aload_n 0, 1, 0, 0, 0, 0), 5, 0), ((68, .new 48, 3, 10, 13, 0, 328), 58, 0), ((71, .dup, 1, 0, 0, 0, 0), 35, 0), ((72, .new 50, 3, 9, 9, 0, 331), 58, 0), ((75, .dup, 1, 0, 0, 0, 0), 35, 0), ((76, .aload_n 0, 1, 0, 0, 0, 0), 5, 0), ((77, .getfield 9, 3, 3, 0, 20, 305), 50, 0)],
  [((80, .aload_n 0, 1, 0, 0, 0, 0), 5, 0), ((81, .getfield 16, 3, 3, 1, 20, 310), 50, 0), ((84, .invokespecial 52, 3, 71, 3, 0, 334), 58, 0), ((87, .aload_n 0, 1, 0, 0, 0, 0), 5, 0), ((88, .getfield 23, 3, 3, 2, 20, 315), 50, 0), ((91, .aload_n 0, 1, 0, 0, 0, 0), 5, 0), ((92, .getfield 16, 3, 3, 1, 20, 310), 50, 0), ((95, .invokespecial 55, 3, 75, 4, 0, 335), 58, 0)],
  [((98, .putfield 58, 3, 3, 5, 20, 336), 51, 0), ((101, .aload_n 0, 1, 0, 0, 0, 0), 5, 0), ((102, .new 62, 3, 12, 15, 0, 337), 58, 0), ((105, .dup, 1, 0, 0, 0, 0), 35, 0), ((106, .aload_n 0, 1, 0, 0, 0, 0), 5, 0), ((107, .getfield 16, 3, 3, 1, 20, 310), 50, 0), ((110, .aload_n 0, 1, 0, 0, 0, 0), 5, 0), ((111, .getfield 30, 3, 3, 3, 20, 320), 50, 0)],
  [((114, .aload_n 0, 1, 0, 0, 0, 0), 5, 0), ((115, .getfield 37, 3, 3, 4, 20, 325), 50, 0), ((118, .invokespecial 64, 3, 85, 4, 0, 340), 58, 0), ((121, .putfield 67, 3, 3, 6, 20, 341), 51, 0), ((124, .aload_n 0, 1, 0, 0, 0, 0), 5, 0), ((125, .new 71, 3, 13, 19, 0, 342), 58, 0)],
  [((128, .dup, 1, 0, 0, 0, 0), 35, 0), ((129, .aload_n 0, 1, 0, 0, 0, 0), 5, 0), ((130, .getfield 23, 3, 3, 2, 20, 315), 50, 0), ((133, .aload_n 0, 1, 0, 0, 0, 0), 5, 0), ((134, .getfield 16, 3, 3, 1, 20, 310), 50, 0), ((137, .aload_n 0, 1, 0, 0, 0, 0), 5, 0), ((138, .getfield 30, 3, 3, 3, 20, 320), 50, 0), ((141, .aload_n 0, 1, 0, 0, 0, 0), 5, 0), ((142, .getfield 37, 3, 3, 4, 20, 325), 50, 0)],
  [((145, .aload_n 0, 1, 0, 0, 0, 0), 5, 0), ((146, .getfield 67, 3, 3, 6, 20, 341), 50, 0), ((149, .invokespecial 73, 3, 87, 6, 0, 345), 58, 0), ((152, .putfield 76, 3, 3, 7, 20, 346), 51, 0), ((155, .return_, 1, 0, 0, 0, 0), 1000, 0)]])
def al_mX11_compile : ev_MeK := (al_yX11_compile, prog_1_method_4_code, 2, (some .int), [[((0, .aload_n 0, 1, 0, 0, 0, 0), 5, 0), ((1, .invokevirtual 86, 3, 49, 1, 3, 347), 56, 0), ((4, .aload_n 0, 1, 0, 0, 0, 0), 5, 0), ((5, .getfield 58, 3, 3, 5, 20, 336), 50, 0), ((8, .aload_n 0, 1, 0, 0, 0, 0), 5, 0), ((9, .getfield 80, 3, 3, 8, 0, 348), 50, 0), ((12, .invokevirtual 89, 3, 76, 2, 10, 349), 56, 0), ((15, .istore_n 1, 1, 0, 0, 0, 0), 7, 1)],
  [((16, .iload_n 1, 1, 0, 0, 0, 0), 1, 1), ((17, .ifCond .eq 28, 3, 45, 0, 0, 0), 38, 0), ((20, .aload_n 0, 1, 0, 0, 0, 0), 5, 0), ((21, .aload_n 0, 1, 0, 0, 0, 0), 5, 0), ((22, .getfield 58, 3, 3, 5, 20, 336), 50, 0), ((25, .getfield 93, 3, 10, 5, 0, 350), 50, 0), ((28, .putfield 41, 3, 3, 10, 0, 326), 51, 0), ((31, .aload_n 0, 1, 0, 0, 0, 0), 5, 0)],
  [((32, .aload_n 0, 1, 0, 0, 0, 0), 5, 0), ((33, .getfield 58, 3, 3, 5, 20, 336), 50, 0), ((36, .getfield 96, 3, 10, 6, 0, 351), 50, 0), ((39, .putfield 45, 3, 3, 11, 0, 327), 51, 0), ((42, .iload_n 1, 1, 0, 0, 0, 0), 1, 1), ((43, .ineg, 1, 0, 0, 0, 0), 23, 0), ((44, .ireturn, 1, 0, 0, 0, 0), 1000, 0), ((45, .aload_n 0, 1, 0, 0, 0, 0), 5, 0), ((46, .iconst (-1), 1, 4294967295, 0, 0, 0), 12, 0), ((47, .putfield 41, 3, 3, 10, 0, 326), 51, 0)],
  [((50, .aload_n 0, 1, 0, 0, 0, 0), 5, 0), ((51, .iconst (-1), 1, 4294967295, 0, 0, 0), 12, 0), ((52, .putfield 45, 3, 3, 11, 0, 327), 51, 0), ((55, .aload_n 0, 1, 0, 0, 0, 0), 5, 0), ((56, .iconst 1, 1, 1, 0, 0, 0), 12, 0), ((57, .putfield 99, 3, 3, 9, 2, 352), 51, 0), ((60, .aload_n 0, 1, 0, 0, 0, 0), 5, 0), ((61, .getfield 76, 3, 3, 7, 20, 346), 50, 0)],
  [((64, .invokevirtual 103, 3, 88, 1, 13, 353), 56, 0), ((67, .aload_n 0, 1, 0, 0, 0, 0), 5, 0), ((68, .getfield 23, 3, 3, 2, 20, 315), 50, 0), ((71, .getfield 106, 3, 5, 14, 0, 354), 50, 0), ((74, .ireturn, 1, 0, 0, 0, 0), 1000, 0)]])
def al_mX11_forget : ev_MeK := (al_yX11_forget, prog_1_method_18_code, 1, none, [[((0, .aload_n 0, 1, 0, 0, 0, 0), 5, 0), ((1, .iconst 0, 1, 0, 0, 0, 0), 12, 0), ((2, .putfield 99, 3, 3, 9, 2, 352), 51, 0), ((5, .return_, 1, 0, 0, 0, 0), 1000, 0)]])
def al_mX8_init : ev_MeK := (al_yX8_init, prog_10_method_1_code, 1, none, [[((0, .aload_n 0, 1, 0, 0, 0, 0), 5, 0), ((1, .invokespecial 3, 3, 0, 0, 0, 355), 58, 0), ((4, .aload_n 0, 1, 0, 0, 0, 0), 5, 0), ((5, .ldc 9, 2, 32768, 0, 0, 358), 58, 0), ((7, .newarray .byte, 2, 1, 0, 0, 43), 58, 0), ((9, .putfield 10, 3, 4, 0, 20, 14), 51, 0), ((12, .aload_n 0, 1, 0, 0, 0, 0), 5, 0), ((13, .sipush 3000, 3, 3000, 0, 0, 0), 14, 0)],
  [((16, .newarray .int, 2, 0, 0, 0, 40), 58, 0), ((18, .putfield 16, 3, 4, 1, 20, 15), 51, 0), ((21, .aload_n 0, 1, 0, 0, 0, 0), 5, 0), ((22, .sipush 3000, 3, 3000, 0, 0, 0), 14, 0), ((25, .newarray .int, 2, 0, 0, 0, 40), 58, 0), ((27, .putfield 20, 3, 4, 2, 20, 13), 51, 0), ((30, .aload_n 0, 1, 0, 0, 0, 0), 5, 0), ((31, .sipush 3000, 3, 3000, 0, 0, 0), 14, 0)],
  [((34, .newarray .int, 2, 0, 0, 0, 40), 58, 0), ((36, .putfield 23, 3, 4, 3, 20, 16), 51, 0), ((39, .aload_n 0, 1, 0, 0, 0, 0), 5, 0), ((40, .sipush 1024, 3, 1024, 0, 0, 0), 14, 0), ((43, .newarray .int, 2, 0, 0, 0, 40), 58, 0), ((45, .putfield 26, 3, 4, 4, 20, 12), 51, 0)],
  [((48, .aload_n 0, 1, 0, 0, 0, 0), 5, 0), ((49, .sipush 3000, 3, 3000, 0, 0, 0), 14, 0), ((52, .newarray .int, 2, 0, 0, 0, 40), 58, 0), ((54, .putfield 29, 3, 4, 5, 20, 23), 51, 0), ((57, .aload_n 0, 1, 0, 0, 0, 0), 5, 0), ((58, .sipush 3000, 3, 3000, 0, 0, 0), 14, 0), ((61, .newarray .byte, 2, 1, 0, 0, 43), 58, 0), ((63, .putfield 32, 3, 4, 7, 20, 26), 51, 0)],
  [((66, .aload_n 0, 1, 0, 0, 0, 0), 5, 0), ((67, .sipush 2200, 3, 2200, 0, 0, 0), 14, 0), ((70, .newarray .byte, 2, 1, 0, 0, 43), 58, 0), ((72, .putfield 35, 3, 4, 14, 20, 1), 51, 0), ((75, .aload_n 0, 1, 0, 0, 0, 0), 5, 0), ((76, .ldc 38, 2, 92233720368547758080, 0, 0, 0), 59, 0), ((78, .invokevirtual 40, 3, 51, 2, 4, 359), 56, 0)],
  [((81, .aload_n 0, 1, 0, 0, 0, 0), 5, 0), ((82, .ldc 44, 2, 92233720368547758081, 0, 0, 0), 59, 0), ((84, .invokevirtual 40, 3, 51, 2, 4, 359), 56, 0), ((87, .aload_n 0, 1, 0, 0, 0, 0), 5, 0), ((88, .ldc 46, 2, 92233720368547758082, 0, 0, 0), 59, 0), ((90, .invokevirtual 40, 3, 51, 2, 4, 359), 56, 0), ((93, .aload_n 0, 1, 0, 0, 0, 0), 5, 0), ((94, .ldc 48, 2, 92233720368547758083, 0, 0, 0), 59, 0)],
  [((96, .invokevirtual 40, 3, 51, 2, 4, 359), 56, 0), ((99, .return_, 1, 0, 0, 0, 0), 1000, 0)]])
def al_mX8_keepNames : ev_MeK := (al_yX8_keepNames, prog_10_method_2_code, 4, none, [[((0, .iconst 0, 1, 0, 0, 0, 0), 12, 0), ((1, .istore_n 2, 1, 0, 0, 0, 0), 7, 2), ((2, .iload_n 2, 1, 0, 0, 0, 0), 1, 2), ((3, .aload_n 1, 1, 0, 0, 0, 0), 59, 1), ((4, .invokevirtual 50, 3, 6, 1, 1, 29), 59, 0), ((7, .if_icmp .ge 39, 3, 46, 0, 0, 0), 47, 0), ((10, .aload_n 1, 1, 0, 0, 0, 0), 59, 1), ((11, .iload_n 2, 1, 0, 0, 0, 0), 1, 2), ((12, .invokevirtual 56, 3, 1, 2, 1, 30), 59, 0), ((15, .istore_n 3, 1, 0, 0, 0, 0), 7, 3)],
  [((16, .iload_n 3, 1, 0, 0, 0, 0), 1, 3), ((17, .bipush 32, 2, 32, 0, 0, 0), 13, 0), ((19, .if_icmp .ne 16, 3, 35, 0, 0, 0), 45, 0), ((22, .aload_n 0, 1, 0, 0, 0, 0), 59, 0), ((23, .invokevirtual 60, 3, 11, 1, 4, 360), 56, 0), ((26, .pop, 1, 0, 0, 0, 0), 58, 0), ((27, .aload_n 0, 1, 0, 0, 0, 0), 59, 0), ((28, .iconst 0, 1, 0, 0, 0, 0), 12, 0), ((29, .putfield 63, 3, 4, 15, 0, 0), 51, 0)],
  [((32, .goto 8, 3, 40, 0, 0, 0), 37, 0), ((35, .aload_n 0, 1, 0, 0, 0, 0), 59, 0), ((36, .iload_n 3, 1, 0, 0, 0, 0), 1, 3), ((37, .invokevirtual 67, 3, 0, 2, 4, 31), 56, 0), ((40, .iinc 2 1, 3, 1, 0, 0, 0), 36, 2), ((43, .goto (-41), 3, 2, 0, 0, 0), 37, 0), ((46, .return_, 1, 0, 0, 0, 0), 1000, 0)]])
def al_mX8_dropText : ev_MeK := (al_yX8_dropText, prog_10_method_20_code, 2, none, [[((0, .aload_n 0, 1, 0, 0, 0, 0), 5, 0), ((1, .aload_n 0, 1, 0, 0, 0, 0), 5, 0), ((2, .getfield 108, 3, 4, 10, 0, 27), 50, 0), ((5, .invokevirtual 120, 3, 54, 2, 4, 361), 56, 0), ((8, .aload_n 0, 1, 0, 0, 0, 0), 5, 0), ((9, .aload_n 0, 1, 0, 0, 0, 0), 5, 0), ((10, .getfield 108, 3, 4, 10, 0, 27), 50, 0), ((13, .putfield 111, 3, 4, 11, 0, 28), 51, 0)],
  [((16, .iconst 0, 1, 0, 0, 0, 0), 12, 0), ((17, .istore_n 1, 1, 0, 0, 0, 0), 7, 1), ((18, .iload_n 1, 1, 0, 0, 0, 0), 1, 1), ((19, .aload_n 0, 1, 0, 0, 0, 0), 5, 0), ((20, .getfield 108, 3, 4, 10, 0, 27), 50, 0), ((23, .if_icmp .ge 26, 3, 49, 0, 0, 0), 47, 0), ((26, .aload_n 0, 1, 0, 0, 0, 0), 5, 0), ((27, .getfield 32, 3, 4, 7, 20, 26), 50, 0), ((30, .iload_n 1, 1, 0, 0, 0, 0), 1, 1), ((31, .baload, 1, 0, 0, 0, 0), 54, 0)],
  [((32, .iconst 1, 1, 1, 0, 0, 0), 12, 0), ((33, .if_icmp .eq 10, 3, 43, 0, 0, 0), 44, 0), ((36, .aload_n 0, 1, 0, 0, 0, 0), 5, 0), ((37, .getfield 32, 3, 4, 7, 20, 26), 50, 0), ((40, .iload_n 1, 1, 0, 0, 0, 0), 1, 1), ((41, .iconst 2, 1, 2, 0, 0, 0), 12, 0), ((42, .bastore, 1, 0, 0, 0, 0), 55, 0), ((43, .iinc 1 1, 3, 1, 0, 0, 0), 36, 1), ((46, .goto (-28), 3, 18, 0, 0, 0), 37, 0)],
  [((49, .return_, 1, 0, 0, 0, 0), 1000, 0)]])
def al_mX8_dropMade : ev_MeK := (al_yX8_dropMade, prog_10_method_21_code, 2, none, [[((0, .aload_n 0, 1, 0, 0, 0, 0), 5, 0), ((1, .aload_n 0, 1, 0, 0, 0, 0), 5, 0), ((2, .getfield 111, 3, 4, 11, 0, 28), 50, 0), ((5, .invokevirtual 120, 3, 54, 2, 4, 361), 56, 0), ((8, .iconst 0, 1, 0, 0, 0, 0), 12, 0), ((9, .istore_n 1, 1, 0, 0, 0, 0), 7, 1), ((10, .iload_n 1, 1, 0, 0, 0, 0), 1, 1), ((11, .aload_n 0, 1, 0, 0, 0, 0), 5, 0), ((12, .getfield 108, 3, 4, 10, 0, 27), 50, 0), ((15, .if_icmp .ge 26, 3, 41, 0, 0, 0), 47, 0)],
  [((18, .aload_n 0, 1, 0, 0, 0, 0), 5, 0), ((19, .getfield 32, 3, 4, 7, 20, 26), 50, 0), ((22, .iload_n 1, 1, 0, 0, 0, 0), 1, 1), ((23, .baload, 1, 0, 0, 0, 0), 54, 0), ((24, .iconst 4, 1, 4, 0, 0, 0), 12, 0), ((25, .if_icmp .ne 10, 3, 35, 0, 0, 0), 45, 0), ((28, .aload_n 0, 1, 0, 0, 0, 0), 5, 0), ((29, .getfield 32, 3, 4, 7, 20, 26), 50, 0)],
  [((32, .iload_n 1, 1, 0, 0, 0, 0), 1, 1), ((33, .iconst 2, 1, 2, 0, 0, 0), 12, 0), ((34, .bastore, 1, 0, 0, 0, 0), 55, 0), ((35, .iinc 1 1, 3, 1, 0, 0, 0), 36, 1), ((38, .goto (-28), 3, 10, 0, 0, 0), 37, 0), ((41, .aload_n 0, 1, 0, 0, 0, 0), 5, 0), ((42, .iconst 0, 1, 0, 0, 0, 0), 12, 0), ((43, .putfield 114, 3, 4, 12, 0, 362), 51, 0), ((46, .aload_n 0, 1, 0, 0, 0, 0), 5, 0), ((47, .iconst 0, 1, 0, 0, 0, 0), 12, 0)],
  [((48, .putfield 117, 3, 4, 13, 0, 363), 51, 0), ((51, .return_, 1, 0, 0, 0, 0), 1000, 0)]])
def al_mX8_cutTo : ev_MeK := (al_yX8_cutTo, prog_10_method_22_code, 3, none, [[((0, .aload_n 0, 1, 0, 0, 0, 0), 5, 0), ((1, .getfield 105, 3, 4, 8, 0, 17), 50, 0), ((4, .iconst 1, 1, 1, 0, 0, 0), 12, 0), ((5, .isub, 1, 0, 0, 0, 0), 17, 0), ((6, .istore_n 2, 1, 0, 0, 0, 0), 7, 2), ((7, .iload_n 2, 1, 0, 0, 0, 0), 1, 2), ((8, .iload_n 1, 1, 0, 0, 0, 0), 1, 1), ((9, .if_icmp .lt 36, 3, 45, 0, 0, 0), 46, 0), ((12, .aload_n 0, 1, 0, 0, 0, 0), 5, 0), ((13, .aload_n 0, 1, 0, 0, 0, 0), 5, 0), ((14, .getfield 16, 3, 4, 1, 20, 15), 50, 0)],
  [((17, .iload_n 2, 1, 0, 0, 0, 0), 1, 2), ((18, .iaload, 1, 0, 0, 0, 0), 52, 0), ((19, .putfield 123, 3, 4, 9, 0, 18), 51, 0), ((22, .aload_n 0, 1, 0, 0, 0, 0), 5, 0), ((23, .getfield 26, 3, 4, 4, 20, 12), 50, 0), ((26, .aload_n 0, 1, 0, 0, 0, 0), 5, 0), ((27, .getfield 29, 3, 4, 5, 20, 23), 50, 0), ((30, .iload_n 2, 1, 0, 0, 0, 0), 1, 2), ((31, .iaload, 1, 0, 0, 0, 0), 52, 0)],
  [((32, .aload_n 0, 1, 0, 0, 0, 0), 5, 0), ((33, .getfield 23, 3, 4, 3, 20, 16), 50, 0), ((36, .iload_n 2, 1, 0, 0, 0, 0), 1, 2), ((37, .iaload, 1, 0, 0, 0, 0), 52, 0), ((38, .iastore, 1, 0, 0, 0, 0), 53, 0), ((39, .iinc 2 (-1), 3, 4294967295, 0, 0, 0), 36, 2), ((42, .goto (-35), 3, 7, 0, 0, 0), 37, 0), ((45, .aload_n 0, 1, 0, 0, 0, 0), 5, 0), ((46, .aload_n 0, 1, 0, 0, 0, 0), 5, 0), ((47, .getfield 105, 3, 4, 8, 0, 17), 50, 0)],
  [((50, .iload_n 1, 1, 0, 0, 0, 0), 1, 1), ((51, .invokestatic 75, 3, 998, 0, 0, 364), 59, 0), ((54, .putfield 105, 3, 4, 8, 0, 17), 51, 0), ((57, .return_, 1, 0, 0, 0, 0), 1000, 0)]])
def al_mX6_init : ev_MeK := (al_yX6_init, prog_8_method_1_code, 1, none, [[((0, .aload_n 0, 1, 0, 0, 0, 0), 5, 0), ((1, .invokespecial 1, 3, 0, 0, 0, 368), 58, 0), ((4, .aload_n 0, 1, 0, 0, 0, 0), 5, 0), ((5, .sipush 10000, 3, 10000, 0, 0, 0), 14, 0), ((8, .newarray .int, 2, 0, 0, 0, 40), 58, 0), ((10, .putfield 9, 3, 5, 0, 20, 371), 51, 0), ((13, .aload_n 0, 1, 0, 0, 0, 0), 5, 0), ((14, .sipush 10000, 3, 10000, 0, 0, 0), 14, 0)],
  [((17, .newarray .int, 2, 0, 0, 0, 40), 58, 0), ((19, .putfield 13, 3, 5, 1, 20, 372), 51, 0), ((22, .aload_n 0, 1, 0, 0, 0, 0), 5, 0), ((23, .sipush 10000, 3, 10000, 0, 0, 0), 14, 0), ((26, .newarray .int, 2, 0, 0, 0, 40), 58, 0), ((28, .putfield 16, 3, 5, 2, 20, 373), 51, 0), ((31, .aload_n 0, 1, 0, 0, 0, 0), 5, 0)],
  [((32, .sipush 10000, 3, 10000, 0, 0, 0), 14, 0), ((35, .newarray .int, 2, 0, 0, 0, 40), 58, 0), ((37, .putfield 19, 3, 5, 3, 20, 374), 51, 0), ((40, .aload_n 0, 1, 0, 0, 0, 0), 5, 0), ((41, .sipush 10000, 3, 10000, 0, 0, 0), 14, 0), ((44, .newarray .long, 2, 10, 0, 0, 53), 58, 0), ((46, .putfield 22, 3, 5, 5, 20, 375), 51, 0)],
  [((49, .aload_n 0, 1, 0, 0, 0, 0), 5, 0), ((50, .bipush 50, 2, 50, 0, 0, 0), 13, 0), ((52, .newarray .int, 2, 0, 0, 0, 40), 58, 0), ((54, .putfield 26, 3, 5, 7, 20, 376), 51, 0), ((57, .aload_n 0, 1, 0, 0, 0, 0), 5, 0), ((58, .bipush 50, 2, 50, 0, 0, 0), 13, 0), ((60, .newarray .int, 2, 0, 0, 0, 40), 58, 0), ((62, .putfield 29, 3, 5, 8, 20, 377), 51, 0)],
  [((65, .aload_n 0, 1, 0, 0, 0, 0), 5, 0), ((66, .bipush 50, 2, 50, 0, 0, 0), 13, 0), ((68, .newarray .int, 2, 0, 0, 0, 40), 58, 0), ((70, .putfield 32, 3, 5, 9, 20, 378), 51, 0), ((73, .aload_n 0, 1, 0, 0, 0, 0), 5, 0), ((74, .bipush 50, 2, 50, 0, 0, 0), 13, 0), ((76, .newarray .int, 2, 0, 0, 0, 40), 58, 0), ((78, .putfield 35, 3, 5, 10, 20, 379), 51, 0)],
  [((81, .aload_n 0, 1, 0, 0, 0, 0), 5, 0), ((82, .bipush 50, 2, 50, 0, 0, 0), 13, 0), ((84, .newarray .int, 2, 0, 0, 0, 40), 58, 0), ((86, .putfield 38, 3, 5, 11, 20, 380), 51, 0), ((89, .aload_n 0, 1, 0, 0, 0, 0), 5, 0), ((90, .bipush 50, 2, 50, 0, 0, 0), 13, 0), ((92, .newarray .boolean, 2, 2, 0, 0, 59), 58, 0), ((94, .putfield 41, 3, 5, 12, 20, 381), 51, 0)],
  [((97, .aload_n 0, 1, 0, 0, 0, 0), 5, 0), ((98, .sipush 1500, 3, 1500, 0, 0, 0), 14, 0), ((101, .newarray .int, 2, 0, 0, 0, 40), 58, 0), ((103, .putfield 45, 3, 5, 13, 20, 382), 51, 0), ((106, .return_, 1, 0, 0, 0, 0), 1000, 0)]])
def al_mX6_clear : ev_MeK := (al_yX6_clear, prog_8_method_2_code, 1, none, [[((0, .aload_n 0, 1, 0, 0, 0, 0), 5, 0), ((1, .iconst 0, 1, 0, 0, 0, 0), 12, 0), ((2, .putfield 48, 3, 5, 4, 0, 383), 51, 0), ((5, .aload_n 0, 1, 0, 0, 0, 0), 5, 0), ((6, .iconst 0, 1, 0, 0, 0, 0), 12, 0), ((7, .putfield 52, 3, 5, 6, 0, 384), 51, 0), ((10, .aload_n 0, 1, 0, 0, 0, 0), 5, 0), ((11, .iconst 0, 1, 0, 0, 0, 0), 12, 0), ((12, .putfield 55, 3, 5, 14, 0, 385), 51, 0), ((15, .return_, 1, 0, 0, 0, 0), 1000, 0)]])
def al_mX6_addFunction : ev_MeK := (al_yX6_addFunction, prog_8_method_3_code, 3, (some .int), [[((0, .aload_n 0, 1, 0, 0, 0, 0), 5, 0), ((1, .getfield 55, 3, 5, 14, 0, 385), 50, 0), ((4, .istore_n 2, 1, 0, 0, 0, 0), 7, 2), ((5, .aload_n 0, 1, 0, 0, 0, 0), 5, 0), ((6, .getfield 32, 3, 5, 9, 20, 378), 50, 0), ((9, .iload_n 2, 1, 0, 0, 0, 0), 1, 2), ((10, .iconst 0, 1, 0, 0, 0, 0), 12, 0), ((11, .iastore, 1, 0, 0, 0, 0), 53, 0), ((12, .aload_n 0, 1, 0, 0, 0, 0), 5, 0), ((13, .getfield 29, 3, 5, 8, 20, 377), 50, 0)],
  [((16, .iload_n 2, 1, 0, 0, 0, 0), 1, 2), ((17, .iconst 0, 1, 0, 0, 0, 0), 12, 0), ((18, .iastore, 1, 0, 0, 0, 0), 53, 0), ((19, .aload_n 0, 1, 0, 0, 0, 0), 5, 0), ((20, .getfield 35, 3, 5, 10, 20, 379), 50, 0), ((23, .iload_n 2, 1, 0, 0, 0, 0), 1, 2), ((24, .iconst 0, 1, 0, 0, 0, 0), 12, 0), ((25, .iastore, 1, 0, 0, 0, 0), 53, 0), ((26, .aload_n 0, 1, 0, 0, 0, 0), 5, 0), ((27, .getfield 41, 3, 5, 12, 20, 381), 50, 0), ((30, .iload_n 2, 1, 0, 0, 0, 0), 1, 2), ((31, .iconst 0, 1, 0, 0, 0, 0), 12, 0)],
  [((32, .bastore, 1, 0, 0, 0, 0), 55, 0), ((33, .aload_n 0, 1, 0, 0, 0, 0), 5, 0), ((34, .getfield 38, 3, 5, 11, 20, 380), 50, 0), ((37, .iload_n 2, 1, 0, 0, 0, 0), 1, 2), ((38, .iload_n 1, 1, 0, 0, 0, 0), 1, 1), ((39, .iastore, 1, 0, 0, 0, 0), 53, 0), ((40, .aload_n 0, 1, 0, 0, 0, 0), 5, 0), ((41, .dup, 1, 0, 0, 0, 0), 35, 0), ((42, .getfield 55, 3, 5, 14, 0, 385), 50, 0), ((45, .iconst 1, 1, 1, 0, 0, 0), 12, 0), ((46, .iadd, 1, 0, 0, 0, 0), 16, 0), ((47, .putfield 55, 3, 5, 14, 0, 385), 51, 0)],
  [((50, .iload_n 2, 1, 0, 0, 0, 0), 1, 2), ((51, .ireturn, 1, 0, 0, 0, 0), 1000, 0)]])
def al_mX6_emit : ev_MeK := (al_yX6_emit, prog_8_method_4_code, 5, (some .int), [[((0, .aload_n 0, 1, 0, 0, 0, 0), 5, 0), ((1, .getfield 48, 3, 5, 4, 0, 383), 50, 0), ((4, .sipush 10000, 3, 10000, 0, 0, 0), 14, 0), ((7, .if_icmp .lt 10, 3, 17, 0, 0, 0), 46, 0), ((10, .aload_n 0, 1, 0, 0, 0, 0), 5, 0), ((11, .getfield 48, 3, 5, 4, 0, 383), 50, 0), ((14, .iconst 1, 1, 1, 0, 0, 0), 12, 0), ((15, .isub, 1, 0, 0, 0, 0), 17, 0)],
  [((16, .ireturn, 1, 0, 0, 0, 0), 1000, 0), ((17, .aload_n 0, 1, 0, 0, 0, 0), 5, 0), ((18, .getfield 9, 3, 5, 0, 20, 371), 50, 0), ((21, .aload_n 0, 1, 0, 0, 0, 0), 5, 0), ((22, .getfield 48, 3, 5, 4, 0, 383), 50, 0), ((25, .iload_n 1, 1, 0, 0, 0, 0), 1, 1), ((26, .iastore, 1, 0, 0, 0, 0), 53, 0), ((27, .aload_n 0, 1, 0, 0, 0, 0), 5, 0), ((28, .getfield 13, 3, 5, 1, 20, 372), 50, 0), ((31, .aload_n 0, 1, 0, 0, 0, 0), 5, 0)],
  [((32, .getfield 48, 3, 5, 4, 0, 383), 50, 0), ((35, .iload_n 2, 1, 0, 0, 0, 0), 1, 2), ((36, .iastore, 1, 0, 0, 0, 0), 53, 0), ((37, .aload_n 0, 1, 0, 0, 0, 0), 5, 0), ((38, .getfield 16, 3, 5, 2, 20, 373), 50, 0), ((41, .aload_n 0, 1, 0, 0, 0, 0), 5, 0), ((42, .getfield 48, 3, 5, 4, 0, 383), 50, 0), ((45, .iload_n 3, 1, 0, 0, 0, 0), 1, 3), ((46, .iastore, 1, 0, 0, 0, 0), 53, 0), ((47, .aload_n 0, 1, 0, 0, 0, 0), 5, 0)],
  [((48, .getfield 19, 3, 5, 3, 20, 374), 50, 0), ((51, .aload_n 0, 1, 0, 0, 0, 0), 5, 0), ((52, .getfield 48, 3, 5, 4, 0, 383), 50, 0), ((55, .iload 4, 2, 0, 0, 0, 0), 0, 4), ((57, .iastore, 1, 0, 0, 0, 0), 53, 0), ((58, .aload_n 0, 1, 0, 0, 0, 0), 5, 0), ((59, .dup, 1, 0, 0, 0, 0), 35, 0), ((60, .getfield 48, 3, 5, 4, 0, 383), 50, 0), ((63, .iconst 1, 1, 1, 0, 0, 0), 12, 0)],
  [((64, .iadd, 1, 0, 0, 0, 0), 16, 0), ((65, .putfield 48, 3, 5, 4, 0, 383), 51, 0), ((68, .aload_n 0, 1, 0, 0, 0, 0), 5, 0), ((69, .getfield 48, 3, 5, 4, 0, 383), 50, 0), ((72, .iconst 1, 1, 1, 0, 0, 0), 12, 0), ((73, .isub, 1, 0, 0, 0, 0), 17, 0), ((74, .ireturn, 1, 0, 0, 0, 0), 1000, 0)]])
def al_mX9_init : ev_MeK := (al_yX9_init, prog_11_method_1_code, 1, none, [[((0, .aload_n 0, 1, 0, 0, 0, 0), 5, 0), ((1, .invokespecial 3, 3, 0, 0, 0, 386), 58, 0), ((4, .aload_n 0, 1, 0, 0, 0, 0), 5, 0), ((5, .sipush 2001, 3, 2001, 0, 0, 0), 14, 0), ((8, .newarray .int, 2, 0, 0, 0, 40), 58, 0), ((10, .putfield 11, 3, 6, 0, 20, 389), 51, 0), ((13, .aload_n 0, 1, 0, 0, 0, 0), 5, 0), ((14, .sipush 2001, 3, 2001, 0, 0, 0), 14, 0)],
  [((17, .newarray .int, 2, 0, 0, 0, 40), 58, 0), ((19, .putfield 17, 3, 6, 1, 20, 390), 51, 0), ((22, .aload_n 0, 1, 0, 0, 0, 0), 5, 0), ((23, .sipush 2001, 3, 2001, 0, 0, 0), 14, 0), ((26, .newarray .int, 2, 0, 0, 0, 40), 58, 0), ((28, .putfield 20, 3, 6, 2, 20, 391), 51, 0), ((31, .aload_n 0, 1, 0, 0, 0, 0), 5, 0)],
  [((32, .sipush 2001, 3, 2001, 0, 0, 0), 14, 0), ((35, .newarray .int, 2, 0, 0, 0, 40), 58, 0), ((37, .putfield 23, 3, 6, 3, 20, 392), 51, 0), ((40, .aload_n 0, 1, 0, 0, 0, 0), 5, 0), ((41, .sipush 3001, 3, 3001, 0, 0, 0), 14, 0), ((44, .newarray .byte, 2, 1, 0, 0, 43), 58, 0), ((46, .putfield 26, 3, 6, 4, 20, 393), 51, 0)],
  [((49, .aload_n 0, 1, 0, 0, 0, 0), 5, 0), ((50, .sipush 3001, 3, 3001, 0, 0, 0), 14, 0), ((53, .newarray .byte, 2, 1, 0, 0, 43), 58, 0), ((55, .putfield 30, 3, 6, 5, 20, 394), 51, 0), ((58, .aload_n 0, 1, 0, 0, 0, 0), 5, 0), ((59, .sipush 3001, 3, 3001, 0, 0, 0), 14, 0), ((62, .newarray .long, 2, 10, 0, 0, 53), 58, 0)],
  [((64, .putfield 33, 3, 6, 6, 20, 395), 51, 0), ((67, .aload_n 0, 1, 0, 0, 0, 0), 5, 0), ((68, .sipush 3001, 3, 3001, 0, 0, 0), 14, 0), ((71, .newarray .long, 2, 10, 0, 0, 53), 58, 0), ((73, .putfield 37, 3, 6, 7, 20, 396), 51, 0), ((76, .aload_n 0, 1, 0, 0, 0, 0), 5, 0), ((77, .sipush 3001, 3, 3001, 0, 0, 0), 14, 0)],
  [((80, .newarray .int, 2, 0, 0, 0, 40), 58, 0), ((82, .putfield 40, 3, 6, 8, 20, 397), 51, 0), ((85, .aload_n 0, 1, 0, 0, 0, 0), 5, 0), ((86, .sipush 3001, 3, 3001, 0, 0, 0), 14, 0), ((89, .newarray .int, 2, 0, 0, 0, 40), 58, 0), ((91, .putfield 43, 3, 6, 9, 20, 398), 51, 0), ((94, .aload_n 0, 1, 0, 0, 0, 0), 5, 0), ((95, .sipush 3001, 3, 3001, 0, 0, 0), 14, 0)],
  [((98, .newarray .int, 2, 0, 0, 0, 40), 58, 0), ((100, .putfield 46, 3, 6, 10, 20, 399), 51, 0), ((103, .aload_n 0, 1, 0, 0, 0, 0), 5, 0), ((104, .sipush 4096, 3, 4096, 0, 0, 0), 14, 0), ((107, .newarray .int, 2, 0, 0, 0, 40), 58, 0), ((109, .putfield 49, 3, 6, 11, 20, 400), 51, 0)],
  [((112, .aload_n 0, 1, 0, 0, 0, 0), 5, 0), ((113, .sipush 3001, 3, 3001, 0, 0, 0), 14, 0), ((116, .newarray .int, 2, 0, 0, 0, 40), 58, 0), ((118, .putfield 52, 3, 6, 12, 20, 401), 51, 0), ((121, .return_, 1, 0, 0, 0, 0), 1000, 0)]])
def al_mX9_clear : ev_MeK := (al_yX9_clear, prog_11_method_2_code, 1, none, [[((0, .aload_n 0, 1, 0, 0, 0, 0), 5, 0), ((1, .getfield 49, 3, 6, 11, 20, 400), 50, 0), ((4, .iconst 0, 1, 0, 0, 0, 0), 12, 0), ((5, .invokestatic 55, 3, 104, 2, 0, 402), 57, 0), ((8, .aload_n 0, 1, 0, 0, 0, 0), 5, 0), ((9, .iconst 0, 1, 0, 0, 0, 0), 12, 0), ((10, .putfield 61, 3, 6, 14, 0, 403), 51, 0), ((13, .aload_n 0, 1, 0, 0, 0, 0), 5, 0), ((14, .iconst 0, 1, 0, 0, 0, 0), 12, 0), ((15, .putfield 65, 3, 6, 15, 0, 404), 51, 0)],
  [((18, .aload_n 0, 1, 0, 0, 0, 0), 5, 0), ((19, .iconst 0, 1, 0, 0, 0, 0), 12, 0), ((20, .putfield 68, 3, 6, 16, 0, 405), 51, 0), ((23, .aload_n 0, 1, 0, 0, 0, 0), 5, 0), ((24, .iconst 0, 1, 0, 0, 0, 0), 12, 0), ((25, .invokevirtual 71, 3, 61, 2, 6, 406), 56, 0), ((28, .return_, 1, 0, 0, 0, 0), 1000, 0)]])
def al_mX9_open : ev_MeK := (al_yX9_open, prog_11_method_3_code, 2, none, [[((0, .aload_n 0, 1, 0, 0, 0, 0), 5, 0), ((1, .getfield 11, 3, 6, 0, 20, 389), 50, 0), ((4, .iload_n 1, 1, 0, 0, 0, 0), 1, 1), ((5, .iconst 0, 1, 0, 0, 0, 0), 12, 0), ((6, .iastore, 1, 0, 0, 0, 0), 53, 0), ((7, .aload_n 0, 1, 0, 0, 0, 0), 5, 0), ((8, .getfield 17, 3, 6, 1, 20, 390), 50, 0), ((11, .iload_n 1, 1, 0, 0, 0, 0), 1, 1), ((12, .iconst 0, 1, 0, 0, 0, 0), 12, 0), ((13, .iastore, 1, 0, 0, 0, 0), 53, 0), ((14, .aload_n 0, 1, 0, 0, 0, 0), 5, 0), ((15, .getfield 20, 3, 6, 2, 20, 391), 50, 0)],
  [((18, .iload_n 1, 1, 0, 0, 0, 0), 1, 1), ((19, .iconst 0, 1, 0, 0, 0, 0), 12, 0), ((20, .iastore, 1, 0, 0, 0, 0), 53, 0), ((21, .aload_n 0, 1, 0, 0, 0, 0), 5, 0), ((22, .getfield 23, 3, 6, 3, 20, 392), 50, 0), ((25, .iload_n 1, 1, 0, 0, 0, 0), 1, 1), ((26, .iconst 0, 1, 0, 0, 0, 0), 12, 0), ((27, .iastore, 1, 0, 0, 0, 0), 53, 0), ((28, .return_, 1, 0, 0, 0, 0), 1000, 0)]])
def al_mX9_find : ev_MeK := (al_yX9_find, prog_11_method_4_code, 7, (some .int), [[((0, .lload_n 3, 1, 0, 0, 0, 0), 3, 3), ((1, .lload_n 3, 1, 0, 0, 0, 0), 3, 3), ((2, .bipush 32, 2, 32, 0, 0, 0), 13, 0), ((4, .lushr, 1, 0, 0, 0, 0), 34, 0), ((5, .lxor, 1, 0, 0, 0, 0), 31, 0), ((6, .l2i, 1, 0, 0, 0, 0), 33, 0), ((7, .bipush 31, 2, 31, 0, 0, 0), 13, 0), ((9, .imul, 1, 0, 0, 0, 0), 18, 0), ((10, .iload_n 2, 1, 0, 0, 0, 0), 1, 2), ((11, .iadd, 1, 0, 0, 0, 0), 16, 0), ((12, .bipush 31, 2, 31, 0, 0, 0), 13, 0), ((14, .imul, 1, 0, 0, 0, 0), 18, 0), ((15, .iload_n 1, 1, 0, 0, 0, 0), 1, 1)],
  [((16, .iadd, 1, 0, 0, 0, 0), 16, 0), ((17, .istore 5, 2, 0, 0, 0, 0), 6, 5), ((19, .aload_n 0, 1, 0, 0, 0, 0), 5, 0), ((20, .iload 5, 2, 0, 0, 0, 0), 0, 5), ((22, .iload 5, 2, 0, 0, 0, 0), 0, 5), ((24, .bipush 12, 2, 12, 0, 0, 0), 13, 0), ((26, .iushr, 1, 0, 0, 0, 0), 22, 0), ((27, .ixor, 1, 0, 0, 0, 0), 21, 0), ((28, .iload 5, 2, 0, 0, 0, 0), 0, 5), ((30, .bipush 24, 2, 24, 0, 0, 0), 13, 0)],
  [((32, .iushr, 1, 0, 0, 0, 0), 22, 0), ((33, .ixor, 1, 0, 0, 0, 0), 21, 0), ((34, .sipush 4095, 3, 4095, 0, 0, 0), 14, 0), ((37, .iand, 1, 0, 0, 0, 0), 19, 0), ((38, .putfield 75, 3, 6, 13, 0, 407), 51, 0), ((41, .aload_n 0, 1, 0, 0, 0, 0), 5, 0), ((42, .getfield 49, 3, 6, 11, 20, 400), 50, 0), ((45, .aload_n 0, 1, 0, 0, 0, 0), 5, 0), ((46, .getfield 75, 3, 6, 13, 0, 407), 50, 0)],
  [((49, .iaload, 1, 0, 0, 0, 0), 52, 0), ((50, .istore 6, 2, 0, 0, 0, 0), 6, 6), ((52, .iload 6, 2, 0, 0, 0, 0), 0, 6), ((54, .ifCond .eq 49, 3, 103, 0, 0, 0), 38, 0), ((57, .aload_n 0, 1, 0, 0, 0, 0), 5, 0), ((58, .getfield 33, 3, 6, 6, 20, 395), 50, 0), ((61, .iload 6, 2, 0, 0, 0, 0), 0, 6), ((63, .laload, 1, 0, 0, 0, 0), 58, 0)],
  [((64, .lload_n 3, 1, 0, 0, 0, 0), 3, 3), ((65, .lcmp, 1, 0, 0, 0, 0), 32, 0), ((66, .ifCond .ne 25, 3, 91, 0, 0, 0), 39, 0), ((69, .aload_n 0, 1, 0, 0, 0, 0), 5, 0), ((70, .getfield 26, 3, 6, 4, 20, 393), 50, 0), ((73, .iload 6, 2, 0, 0, 0, 0), 0, 6), ((75, .baload, 1, 0, 0, 0, 0), 54, 0), ((76, .iload_n 2, 1, 0, 0, 0, 0), 1, 2), ((77, .if_icmp .ne 14, 3, 91, 0, 0, 0), 45, 0)],
  [((80, .aload_n 0, 1, 0, 0, 0, 0), 5, 0), ((81, .getfield 40, 3, 6, 8, 20, 397), 50, 0), ((84, .iload 6, 2, 0, 0, 0, 0), 0, 6), ((86, .iaload, 1, 0, 0, 0, 0), 52, 0), ((87, .iload_n 1, 1, 0, 0, 0, 0), 1, 1), ((88, .if_icmp .eq 15, 3, 103, 0, 0, 0), 44, 0), ((91, .aload_n 0, 1, 0, 0, 0, 0), 5, 0), ((92, .getfield 46, 3, 6, 10, 20, 399), 50, 0), ((95, .iload 6, 2, 0, 0, 0, 0), 0, 6)],
  [((97, .iaload, 1, 0, 0, 0, 0), 52, 0), ((98, .istore 6, 2, 0, 0, 0, 0), 6, 6), ((100, .goto (-48), 3, 52, 0, 0, 0), 37, 0), ((103, .iload 6, 2, 0, 0, 0, 0), 0, 6), ((105, .ireturn, 1, 0, 0, 0, 0), 1000, 0)]])
def al_mX9_put : ev_MeK := (al_yX9_put, prog_11_method_6_code, 10, (some .boolean), [[((0, .aload_n 0, 1, 0, 0, 0, 0), 5, 0), ((1, .iload_n 1, 1, 0, 0, 0, 0), 1, 1), ((2, .iload_n 2, 1, 0, 0, 0, 0), 1, 2), ((3, .lload_n 3, 1, 0, 0, 0, 0), 3, 3), ((4, .invokevirtual 78, 3, 62, 4, 6, 408), 56, 0), ((7, .istore 8, 2, 0, 0, 0, 0), 6, 8), ((9, .iload 8, 2, 0, 0, 0, 0), 0, 8), ((11, .ifCond .ne 26, 3, 37, 0, 0, 0), 39, 0), ((14, .iload 5, 2, 0, 0, 0, 0), 0, 5)],
  [((16, .ifCond .ne 5, 3, 21, 0, 0, 0), 39, 0), ((19, .iconst 1, 1, 1, 0, 0, 0), 12, 0), ((20, .ireturn, 1, 0, 0, 0, 0), 1000, 0), ((21, .aload_n 0, 1, 0, 0, 0, 0), 5, 0), ((22, .iload_n 1, 1, 0, 0, 0, 0), 1, 1), ((23, .iload_n 2, 1, 0, 0, 0, 0), 1, 2), ((24, .lload_n 3, 1, 0, 0, 0, 0), 3, 3), ((25, .invokevirtual 82, 3, 64, 4, 6, 409), 56, 0), ((28, .istore 8, 2, 0, 0, 0, 0), 6, 8), ((30, .iload 8, 2, 0, 0, 0, 0), 0, 8)],
  [((32, .ifCond .ne 5, 3, 37, 0, 0, 0), 39, 0), ((35, .iconst 0, 1, 0, 0, 0, 0), 12, 0), ((36, .ireturn, 1, 0, 0, 0, 0), 1000, 0), ((37, .aload_n 0, 1, 0, 0, 0, 0), 5, 0), ((38, .getfield 30, 3, 6, 5, 20, 394), 50, 0), ((41, .iload 8, 2, 0, 0, 0, 0), 0, 8), ((43, .baload, 1, 0, 0, 0, 0), 54, 0), ((44, .ifCond .eq 7, 3, 51, 0, 0, 0), 38, 0), ((47, .iconst 1, 1, 1, 0, 0, 0), 12, 0)],
  [((48, .goto 4, 3, 52, 0, 0, 0), 37, 0), ((51, .iconst 0, 1, 0, 0, 0, 0), 12, 0), ((52, .istore 9, 2, 0, 0, 0, 0), 6, 9), ((54, .aload_n 0, 1, 0, 0, 0, 0), 5, 0), ((55, .getfield 30, 3, 6, 5, 20, 394), 50, 0), ((58, .iload 8, 2, 0, 0, 0, 0), 0, 8), ((60, .iload 5, 2, 0, 0, 0, 0), 0, 5), ((62, .i2b, 1, 0, 0, 0, 0), 24, 0), ((63, .bastore, 1, 0, 0, 0, 0), 55, 0)],
  [((64, .aload_n 0, 1, 0, 0, 0, 0), 5, 0), ((65, .getfield 37, 3, 6, 7, 20, 396), 50, 0), ((68, .iload 8, 2, 0, 0, 0, 0), 0, 8), ((70, .lload 6, 2, 0, 0, 0, 0), 2, 6), ((72, .lastore, 1, 0, 0, 0, 0), 58, 0), ((73, .iload_n 2, 1, 0, 0, 0, 0), 1, 2), ((74, .iconst 2, 1, 2, 0, 0, 0), 12, 0), ((75, .if_icmp .ne 35, 3, 110, 0, 0, 0), 45, 0), ((78, .iload 9, 2, 0, 0, 0, 0), 0, 9)],
  [((80, .ifCond .ne 30, 3, 110, 0, 0, 0), 39, 0), ((83, .iload 5, 2, 0, 0, 0, 0), 0, 5), ((85, .ifCond .eq 25, 3, 110, 0, 0, 0), 38, 0), ((88, .lload_n 3, 1, 0, 0, 0, 0), 3, 3), ((89, .aload_n 0, 1, 0, 0, 0, 0), 5, 0), ((90, .getfield 20, 3, 6, 2, 20, 391), 50, 0), ((93, .iload_n 1, 1, 0, 0, 0, 0), 1, 1), ((94, .iaload, 1, 0, 0, 0, 0), 52, 0), ((95, .i2l, 1, 0, 0, 0, 0), 26, 0)],
  [((96, .lconst 1, 1, 0, 0, 0, 0), 15, 1), ((97, .ladd, 1, 0, 0, 0, 0), 27, 0), ((98, .lcmp, 1, 0, 0, 0, 0), 32, 0), ((99, .ifCond .ne 11, 3, 110, 0, 0, 0), 39, 0), ((102, .aload_n 0, 1, 0, 0, 0, 0), 5, 0), ((103, .iload_n 1, 1, 0, 0, 0, 0), 1, 1), ((107, .goto 20, 3, 127, 0, 0, 0), 37, 0), ((110, .iload 9, 2, 0, 0, 0, 0), 0, 9)],
  [((112, .ifCond .eq 15, 3, 127, 0, 0, 0), 38, 0), ((115, .iload 5, 2, 0, 0, 0, 0), 0, 5), ((117, .ifCond .ne 10, 3, 127, 0, 0, 0), 39, 0), ((120, .aload_n 0, 1, 0, 0, 0, 0), 5, 0), ((121, .iload_n 1, 1, 0, 0, 0, 0), 1, 1), ((122, .iload_n 2, 1, 0, 0, 0, 0), 1, 2), ((123, .lload_n 3, 1, 0, 0, 0, 0), 3, 3), ((127, .iconst 1, 1, 1, 0, 0, 0), 12, 0)],
  [((128, .ireturn, 1, 0, 0, 0, 0), 1000, 0)]])
def al_mX9_add : ev_MeK := (al_yX9_add, prog_11_method_12_code, 6, (some .int), [[((0, .aload_n 0, 1, 0, 0, 0, 0), 5, 0), ((1, .getfield 68, 3, 6, 16, 0, 405), 50, 0), ((4, .sipush 3000, 3, 3000, 0, 0, 0), 14, 0), ((7, .if_icmp .lt 5, 3, 12, 0, 0, 0), 46, 0), ((10, .iconst 0, 1, 0, 0, 0, 0), 12, 0), ((11, .ireturn, 1, 0, 0, 0, 0), 1000, 0), ((12, .aload_n 0, 1, 0, 0, 0, 0), 5, 0), ((13, .getfield 61, 3, 6, 14, 0, 403), 50, 0)],
  [((16, .istore 5, 2, 0, 0, 0, 0), 6, 5), ((18, .iload 5, 2, 0, 0, 0, 0), 0, 5), ((20, .ifCond .eq 17, 3, 37, 0, 0, 0), 38, 0), ((23, .aload_n 0, 1, 0, 0, 0, 0), 5, 0), ((24, .aload_n 0, 1, 0, 0, 0, 0), 5, 0), ((25, .getfield 43, 3, 6, 9, 20, 398), 50, 0), ((28, .iload 5, 2, 0, 0, 0, 0), 0, 5), ((30, .iaload, 1, 0, 0, 0, 0), 52, 0), ((31, .putfield 61, 3, 6, 14, 0, 403), 51, 0)],
  [((34, .goto 19, 3, 53, 0, 0, 0), 37, 0), ((37, .aload_n 0, 1, 0, 0, 0, 0), 5, 0), ((38, .dup, 1, 0, 0, 0, 0), 35, 0), ((39, .getfield 65, 3, 6, 15, 0, 404), 50, 0), ((42, .iconst 1, 1, 1, 0, 0, 0), 12, 0), ((43, .iadd, 1, 0, 0, 0, 0), 16, 0), ((44, .putfield 65, 3, 6, 15, 0, 404), 51, 0), ((47, .aload_n 0, 1, 0, 0, 0, 0), 5, 0)],
  [((48, .getfield 65, 3, 6, 15, 0, 404), 50, 0), ((51, .istore 5, 2, 0, 0, 0, 0), 6, 5), ((53, .aload_n 0, 1, 0, 0, 0, 0), 5, 0), ((54, .dup, 1, 0, 0, 0, 0), 35, 0), ((55, .getfield 68, 3, 6, 16, 0, 405), 50, 0), ((58, .iconst 1, 1, 1, 0, 0, 0), 12, 0), ((59, .iadd, 1, 0, 0, 0, 0), 16, 0), ((60, .putfield 68, 3, 6, 16, 0, 405), 51, 0), ((63, .aload_n 0, 1, 0, 0, 0, 0), 5, 0)],
  [((64, .getfield 40, 3, 6, 8, 20, 397), 50, 0), ((67, .iload 5, 2, 0, 0, 0, 0), 0, 5), ((69, .iload_n 1, 1, 0, 0, 0, 0), 1, 1), ((70, .iastore, 1, 0, 0, 0, 0), 53, 0), ((71, .aload_n 0, 1, 0, 0, 0, 0), 5, 0), ((72, .getfield 26, 3, 6, 4, 20, 393), 50, 0), ((75, .iload 5, 2, 0, 0, 0, 0), 0, 5), ((77, .iload_n 2, 1, 0, 0, 0, 0), 1, 2), ((78, .i2b, 1, 0, 0, 0, 0), 24, 0), ((79, .bastore, 1, 0, 0, 0, 0), 55, 0)],
  [((80, .aload_n 0, 1, 0, 0, 0, 0), 5, 0), ((81, .getfield 33, 3, 6, 6, 20, 395), 50, 0), ((84, .iload 5, 2, 0, 0, 0, 0), 0, 5), ((86, .lload_n 3, 1, 0, 0, 0, 0), 3, 3), ((87, .lastore, 1, 0, 0, 0, 0), 58, 0), ((88, .aload_n 0, 1, 0, 0, 0, 0), 5, 0), ((89, .getfield 30, 3, 6, 5, 20, 394), 50, 0), ((92, .iload 5, 2, 0, 0, 0, 0), 0, 5), ((94, .iconst 0, 1, 0, 0, 0, 0), 12, 0), ((95, .bastore, 1, 0, 0, 0, 0), 55, 0)],
  [((96, .aload_n 0, 1, 0, 0, 0, 0), 5, 0), ((97, .getfield 43, 3, 6, 9, 20, 398), 50, 0), ((100, .iload 5, 2, 0, 0, 0, 0), 0, 5), ((102, .iconst 0, 1, 0, 0, 0, 0), 12, 0), ((103, .iastore, 1, 0, 0, 0, 0), 53, 0), ((104, .aload_n 0, 1, 0, 0, 0, 0), 5, 0), ((105, .getfield 11, 3, 6, 0, 20, 389), 50, 0), ((108, .iload_n 1, 1, 0, 0, 0, 0), 1, 1), ((109, .iaload, 1, 0, 0, 0, 0), 52, 0), ((110, .ifCond .ne 14, 3, 124, 0, 0, 0), 39, 0)],
  [((113, .aload_n 0, 1, 0, 0, 0, 0), 5, 0), ((114, .getfield 11, 3, 6, 0, 20, 389), 50, 0), ((117, .iload_n 1, 1, 0, 0, 0, 0), 1, 1), ((118, .iload 5, 2, 0, 0, 0, 0), 0, 5), ((120, .iastore, 1, 0, 0, 0, 0), 53, 0), ((121, .goto 16, 3, 137, 0, 0, 0), 37, 0), ((124, .aload_n 0, 1, 0, 0, 0, 0), 5, 0), ((125, .getfield 43, 3, 6, 9, 20, 398), 50, 0)],
  [((128, .aload_n 0, 1, 0, 0, 0, 0), 5, 0), ((129, .getfield 17, 3, 6, 1, 20, 390), 50, 0), ((132, .iload_n 1, 1, 0, 0, 0, 0), 1, 1), ((133, .iaload, 1, 0, 0, 0, 0), 52, 0), ((134, .iload 5, 2, 0, 0, 0, 0), 0, 5), ((136, .iastore, 1, 0, 0, 0, 0), 53, 0), ((137, .aload_n 0, 1, 0, 0, 0, 0), 5, 0), ((138, .getfield 17, 3, 6, 1, 20, 390), 50, 0), ((141, .iload_n 1, 1, 0, 0, 0, 0), 1, 1), ((142, .iload 5, 2, 0, 0, 0, 0), 0, 5)],
  [((144, .iastore, 1, 0, 0, 0, 0), 53, 0), ((145, .aload_n 0, 1, 0, 0, 0, 0), 5, 0), ((146, .getfield 52, 3, 6, 12, 20, 401), 50, 0), ((149, .iload 5, 2, 0, 0, 0, 0), 0, 5), ((151, .aload_n 0, 1, 0, 0, 0, 0), 5, 0), ((152, .getfield 75, 3, 6, 13, 0, 407), 50, 0), ((155, .iastore, 1, 0, 0, 0, 0), 53, 0), ((156, .aload_n 0, 1, 0, 0, 0, 0), 5, 0), ((157, .getfield 46, 3, 6, 10, 20, 399), 50, 0)],
  [((160, .iload 5, 2, 0, 0, 0, 0), 0, 5), ((162, .aload_n 0, 1, 0, 0, 0, 0), 5, 0), ((163, .getfield 49, 3, 6, 11, 20, 400), 50, 0), ((166, .aload_n 0, 1, 0, 0, 0, 0), 5, 0), ((167, .getfield 75, 3, 6, 13, 0, 407), 50, 0), ((170, .iaload, 1, 0, 0, 0, 0), 52, 0), ((171, .iastore, 1, 0, 0, 0, 0), 53, 0), ((172, .aload_n 0, 1, 0, 0, 0, 0), 5, 0), ((173, .getfield 49, 3, 6, 11, 20, 400), 50, 0)],
  [((176, .aload_n 0, 1, 0, 0, 0, 0), 5, 0), ((177, .getfield 75, 3, 6, 13, 0, 407), 50, 0), ((180, .iload 5, 2, 0, 0, 0, 0), 0, 5), ((182, .iastore, 1, 0, 0, 0, 0), 53, 0), ((183, .iload 5, 2, 0, 0, 0, 0), 0, 5), ((185, .ireturn, 1, 0, 0, 0, 0), 1000, 0)]])
def al_mX3_init : ev_MeK := (al_yX3_init, prog_5_method_1_code, 1, none, [[((0, .aload_n 0, 1, 0, 0, 0, 0), 5, 0), ((1, .invokespecial 3, 3, 0, 0, 0, 410), 58, 0), ((4, .aload_n 0, 1, 0, 0, 0, 0), 5, 0), ((5, .sipush 2001, 3, 2001, 0, 0, 0), 14, 0), ((8, .newarray .byte, 2, 1, 0, 0, 43), 58, 0), ((10, .putfield 11, 3, 7, 0, 20, 413), 51, 0), ((13, .aload_n 0, 1, 0, 0, 0, 0), 5, 0), ((14, .sipush 2001, 3, 2001, 0, 0, 0), 14, 0)],
  [((17, .newarray .int, 2, 0, 0, 0, 40), 58, 0), ((19, .putfield 15, 3, 7, 1, 20, 414), 51, 0), ((22, .aload_n 0, 1, 0, 0, 0, 0), 5, 0), ((23, .sipush 2001, 3, 2001, 0, 0, 0), 14, 0), ((26, .newarray .int, 2, 0, 0, 0, 40), 58, 0), ((28, .putfield 19, 3, 7, 2, 20, 415), 51, 0), ((31, .aload_n 0, 1, 0, 0, 0, 0), 5, 0)],
  [((32, .sipush 256, 3, 256, 0, 0, 0), 14, 0), ((35, .newarray .int, 2, 0, 0, 0, 40), 58, 0), ((37, .putfield 22, 3, 7, 5, 20, 416), 51, 0), ((40, .aload_n 0, 1, 0, 0, 0, 0), 5, 0), ((41, .sipush 256, 3, 256, 0, 0, 0), 14, 0), ((44, .newarray .byte, 2, 1, 0, 0, 43), 58, 0), ((46, .putfield 25, 3, 7, 7, 20, 417), 51, 0)],
  [((49, .aload_n 0, 1, 0, 0, 0, 0), 5, 0), ((50, .sipush 256, 3, 256, 0, 0, 0), 14, 0), ((53, .newarray .long, 2, 10, 0, 0, 53), 58, 0), ((55, .putfield 28, 3, 7, 8, 20, 418), 51, 0), ((58, .aload_n 0, 1, 0, 0, 0, 0), 5, 0), ((59, .bipush 26, 2, 26, 0, 0, 0), 13, 0), ((61, .anewarray 32, 3, 0, 0, 0, 419), 59, 0)],
  [((64, .putfield 34, 3, 7, 10, 20, 420), 51, 0), ((67, .aload_n 0, 1, 0, 0, 0, 0), 5, 0), ((68, .getfield 34, 3, 7, 10, 20, 420), 50, 0), ((71, .iconst 0, 1, 0, 0, 0, 0), 12, 0), ((72, .new 32, 3, 8, 16, 0, 421), 58, 0), ((75, .dup, 1, 0, 0, 0, 0), 35, 0), ((76, .invokespecial 38, 3, 68, 1, 0, 424), 58, 0), ((79, .aastore, 1, 8, 0, 0, 0), 59, 0)],
  [((80, .return_, 1, 0, 0, 0, 0), 1000, 0)]])
def al_mX3_clear : ev_MeK := (al_yX3_clear, prog_5_method_2_code, 1, none, [[((0, .aload_n 0, 1, 0, 0, 0, 0), 5, 0), ((1, .iconst 0, 1, 0, 0, 0, 0), 12, 0), ((2, .putfield 39, 3, 7, 3, 0, 425), 51, 0), ((5, .aload_n 0, 1, 0, 0, 0, 0), 5, 0), ((6, .iconst 0, 1, 0, 0, 0, 0), 12, 0), ((7, .putfield 43, 3, 7, 4, 0, 426), 51, 0), ((10, .aload_n 0, 1, 0, 0, 0, 0), 5, 0), ((11, .iconst 0, 1, 0, 0, 0, 0), 12, 0), ((12, .putfield 46, 3, 7, 6, 0, 427), 51, 0), ((15, .aload_n 0, 1, 0, 0, 0, 0), 5, 0)],
  [((16, .iconst 0, 1, 0, 0, 0, 0), 12, 0), ((17, .putfield 49, 3, 7, 9, 0, 428), 51, 0), ((20, .aload_n 0, 1, 0, 0, 0, 0), 5, 0), ((21, .iconst 0, 1, 0, 0, 0, 0), 12, 0), ((22, .putfield 52, 3, 7, 11, 0, 429), 51, 0), ((25, .aload_n 0, 1, 0, 0, 0, 0), 5, 0), ((26, .getfield 34, 3, 7, 10, 20, 420), 50, 0), ((29, .iconst 0, 1, 0, 0, 0, 0), 12, 0), ((30, .aaload, 1, 0, 0, 0, 0), 58, 0), ((31, .iconst 0, 1, 0, 0, 0, 0), 12, 0)],
  [((32, .iconst 2, 1, 2, 0, 0, 0), 12, 0), ((33, .invokevirtual 55, 3, 69, 3, 8, 430), 56, 0), ((36, .return_, 1, 0, 0, 0, 0), 1000, 0)]])
def al_mX3_make : ev_MeK := (al_yX3_make, prog_5_method_3_code, 2, (some .int), [[((0, .aload_n 0, 1, 0, 0, 0, 0), 5, 0), ((1, .getfield 39, 3, 7, 3, 0, 425), 50, 0), ((4, .sipush 2000, 3, 2000, 0, 0, 0), 14, 0), ((7, .if_icmp .lt 5, 3, 12, 0, 0, 0), 46, 0), ((10, .iconst 0, 1, 0, 0, 0, 0), 12, 0), ((11, .ireturn, 1, 0, 0, 0, 0), 1000, 0), ((12, .aload_n 0, 1, 0, 0, 0, 0), 5, 0), ((13, .dup, 1, 0, 0, 0, 0), 35, 0), ((14, .getfield 39, 3, 7, 3, 0, 425), 50, 0)],
  [((17, .iconst 1, 1, 1, 0, 0, 0), 12, 0), ((18, .iadd, 1, 0, 0, 0, 0), 16, 0), ((19, .putfield 39, 3, 7, 3, 0, 425), 51, 0), ((22, .aload_n 0, 1, 0, 0, 0, 0), 5, 0), ((23, .getfield 11, 3, 7, 0, 20, 413), 50, 0), ((26, .aload_n 0, 1, 0, 0, 0, 0), 5, 0), ((27, .getfield 39, 3, 7, 3, 0, 425), 50, 0), ((30, .iload_n 1, 1, 0, 0, 0, 0), 1, 1), ((31, .i2b, 1, 0, 0, 0, 0), 24, 0)],
  [((32, .bastore, 1, 0, 0, 0, 0), 55, 0), ((33, .aload_n 0, 1, 0, 0, 0, 0), 5, 0), ((34, .getfield 19, 3, 7, 2, 20, 415), 50, 0), ((37, .aload_n 0, 1, 0, 0, 0, 0), 5, 0), ((38, .getfield 39, 3, 7, 3, 0, 425), 50, 0), ((41, .aload_n 0, 1, 0, 0, 0, 0), 5, 0), ((42, .getfield 46, 3, 7, 6, 0, 427), 50, 0), ((45, .iastore, 1, 0, 0, 0, 0), 53, 0), ((46, .aload_n 0, 1, 0, 0, 0, 0), 5, 0), ((47, .getfield 39, 3, 7, 3, 0, 425), 50, 0)],
  [((50, .ireturn, 1, 0, 0, 0, 0), 1000, 0)]])
def al_mX5_init : ev_MeK := (al_yX5_init, prog_7_method_1_code, 1, none, [[((0, .aload_n 0, 1, 0, 0, 0, 0), 5, 0), ((1, .invokespecial 3, 3, 0, 0, 0, 431), 58, 0), ((4, .aload_n 0, 1, 0, 0, 0, 0), 5, 0), ((5, .bipush 64, 2, 64, 0, 0, 0), 13, 0), ((7, .newarray .byte, 2, 1, 0, 0, 43), 58, 0), ((9, .putfield 9, 3, 8, 0, 20, 434), 51, 0), ((12, .aload_n 0, 1, 0, 0, 0, 0), 5, 0), ((13, .bipush 64, 2, 64, 0, 0, 0), 13, 0), ((15, .newarray .long, 2, 10, 0, 0, 53), 58, 0)],
  [((17, .putfield 15, 3, 8, 1, 20, 435), 51, 0), ((20, .aload_n 0, 1, 0, 0, 0, 0), 5, 0), ((21, .bipush 21, 2, 21, 0, 0, 0), 13, 0), ((23, .newarray .int, 2, 0, 0, 0, 40), 58, 0), ((25, .putfield 19, 3, 8, 3, 20, 436), 51, 0), ((28, .aload_n 0, 1, 0, 0, 0, 0), 5, 0), ((29, .bipush 21, 2, 21, 0, 0, 0), 13, 0), ((31, .newarray .int, 2, 0, 0, 0, 40), 58, 0)],
  [((33, .putfield 23, 3, 8, 4, 20, 437), 51, 0), ((36, .aload_n 0, 1, 0, 0, 0, 0), 5, 0), ((37, .bipush 21, 2, 21, 0, 0, 0), 13, 0), ((39, .newarray .int, 2, 0, 0, 0, 40), 58, 0), ((41, .putfield 26, 3, 8, 5, 20, 438), 51, 0), ((44, .aload_n 0, 1, 0, 0, 0, 0), 5, 0), ((45, .bipush 21, 2, 21, 0, 0, 0), 13, 0), ((47, .newarray .int, 2, 0, 0, 0, 40), 58, 0)],
  [((49, .putfield 29, 3, 8, 6, 20, 439), 51, 0), ((52, .aload_n 0, 1, 0, 0, 0, 0), 5, 0), ((53, .bipush 21, 2, 21, 0, 0, 0), 13, 0), ((55, .newarray .int, 2, 0, 0, 0, 40), 58, 0), ((57, .putfield 32, 3, 8, 7, 20, 440), 51, 0), ((60, .aload_n 0, 1, 0, 0, 0, 0), 5, 0), ((61, .bipush 21, 2, 21, 0, 0, 0), 13, 0), ((63, .newarray .int, 2, 0, 0, 0, 40), 58, 0)],
  [((65, .putfield 35, 3, 8, 8, 20, 441), 51, 0), ((68, .aload_n 0, 1, 0, 0, 0, 0), 5, 0), ((69, .bipush 21, 2, 21, 0, 0, 0), 13, 0), ((71, .newarray .int, 2, 0, 0, 0, 40), 58, 0), ((73, .putfield 38, 3, 8, 9, 20, 442), 51, 0), ((76, .return_, 1, 0, 0, 0, 0), 1000, 0)]])
def al_mX5_open : ev_MeK := (al_yX5_open, prog_7_method_2_code, 3, none, [[((0, .aload_n 0, 1, 0, 0, 0, 0), 5, 0), ((1, .iload_n 1, 1, 0, 0, 0, 0), 1, 1), ((2, .putfield 41, 3, 8, 12, 0, 443), 51, 0), ((5, .aload_n 0, 1, 0, 0, 0, 0), 5, 0), ((6, .iload_n 2, 1, 0, 0, 0, 0), 1, 2), ((7, .putfield 45, 3, 8, 11, 0, 444), 51, 0), ((10, .aload_n 0, 1, 0, 0, 0, 0), 5, 0), ((11, .iconst 0, 1, 0, 0, 0, 0), 12, 0), ((12, .putfield 48, 3, 8, 2, 0, 445), 51, 0), ((15, .aload_n 0, 1, 0, 0, 0, 0), 5, 0)],
  [((16, .iconst 0, 1, 0, 0, 0, 0), 12, 0), ((17, .putfield 51, 3, 8, 10, 0, 446), 51, 0), ((20, .aload_n 0, 1, 0, 0, 0, 0), 5, 0), ((21, .iconst (-1), 1, 4294967295, 0, 0, 0), 12, 0), ((22, .putfield 54, 3, 8, 14, 0, 447), 51, 0), ((25, .aload_n 0, 1, 0, 0, 0, 0), 5, 0), ((26, .iconst 0, 1, 0, 0, 0, 0), 12, 0), ((27, .putfield 57, 3, 8, 15, 0, 448), 51, 0), ((30, .return_, 1, 0, 0, 0, 0), 1000, 0)]])
def al_mX5_enter : ev_MeK := (al_yX5_enter, prog_7_method_13_code, 8, none, [[((0, .aload_n 0, 1, 0, 0, 0, 0), 5, 0), ((1, .dup, 1, 0, 0, 0, 0), 35, 0), ((2, .getfield 51, 3, 8, 10, 0, 446), 50, 0), ((5, .iconst 1, 1, 1, 0, 0, 0), 12, 0), ((6, .iadd, 1, 0, 0, 0, 0), 16, 0), ((7, .putfield 51, 3, 8, 10, 0, 446), 51, 0), ((10, .aload_n 0, 1, 0, 0, 0, 0), 5, 0), ((11, .getfield 19, 3, 8, 3, 20, 436), 50, 0), ((14, .aload_n 0, 1, 0, 0, 0, 0), 5, 0), ((15, .getfield 51, 3, 8, 10, 0, 446), 50, 0)],
  [((18, .iload_n 1, 1, 0, 0, 0, 0), 1, 1), ((19, .iastore, 1, 0, 0, 0, 0), 53, 0), ((20, .aload_n 0, 1, 0, 0, 0, 0), 5, 0), ((21, .getfield 23, 3, 8, 4, 20, 437), 50, 0), ((24, .aload_n 0, 1, 0, 0, 0, 0), 5, 0), ((25, .getfield 51, 3, 8, 10, 0, 446), 50, 0), ((28, .iload_n 2, 1, 0, 0, 0, 0), 1, 2), ((29, .iastore, 1, 0, 0, 0, 0), 53, 0), ((30, .aload_n 0, 1, 0, 0, 0, 0), 5, 0), ((31, .getfield 26, 3, 8, 5, 20, 438), 50, 0)],
  [((34, .aload_n 0, 1, 0, 0, 0, 0), 5, 0), ((35, .getfield 51, 3, 8, 10, 0, 446), 50, 0), ((38, .iload_n 3, 1, 0, 0, 0, 0), 1, 3), ((39, .iastore, 1, 0, 0, 0, 0), 53, 0), ((40, .aload_n 0, 1, 0, 0, 0, 0), 5, 0), ((41, .getfield 29, 3, 8, 6, 20, 439), 50, 0), ((44, .aload_n 0, 1, 0, 0, 0, 0), 5, 0), ((45, .getfield 51, 3, 8, 10, 0, 446), 50, 0)],
  [((48, .iload 4, 2, 0, 0, 0, 0), 0, 4), ((50, .iastore, 1, 0, 0, 0, 0), 53, 0), ((51, .aload_n 0, 1, 0, 0, 0, 0), 5, 0), ((52, .getfield 32, 3, 8, 7, 20, 440), 50, 0), ((55, .aload_n 0, 1, 0, 0, 0, 0), 5, 0), ((56, .getfield 51, 3, 8, 10, 0, 446), 50, 0), ((59, .iload 5, 2, 0, 0, 0, 0), 0, 5), ((61, .iastore, 1, 0, 0, 0, 0), 53, 0), ((62, .aload_n 0, 1, 0, 0, 0, 0), 5, 0), ((63, .getfield 35, 3, 8, 8, 20, 441), 50, 0)],
  [((66, .aload_n 0, 1, 0, 0, 0, 0), 5, 0), ((67, .getfield 51, 3, 8, 10, 0, 446), 50, 0), ((70, .iload 6, 2, 0, 0, 0, 0), 0, 6), ((72, .iastore, 1, 0, 0, 0, 0), 53, 0), ((73, .aload_n 0, 1, 0, 0, 0, 0), 5, 0), ((74, .getfield 38, 3, 8, 9, 20, 442), 50, 0), ((77, .aload_n 0, 1, 0, 0, 0, 0), 5, 0), ((78, .getfield 51, 3, 8, 10, 0, 446), 50, 0)],
  [((81, .iload 7, 2, 0, 0, 0, 0), 0, 7), ((83, .iastore, 1, 0, 0, 0, 0), 53, 0), ((84, .return_, 1, 0, 0, 0, 0), 1000, 0)]])
def al_mX10_init : ev_MeK := (al_yX10_init, prog_12_method_1_code, 3, none, [[((0, .aload_n 0, 1, 0, 0, 0, 0), 5, 0), ((1, .invokespecial 3, 3, 0, 0, 0, 449), 58, 0), ((4, .aload_n 0, 1, 0, 0, 0, 0), 5, 0), ((5, .aload_n 1, 1, 0, 0, 0, 0), 5, 1), ((6, .putfield 9, 3, 9, 0, 20, 452), 51, 0), ((9, .aload_n 0, 1, 0, 0, 0, 0), 5, 0), ((10, .aload_n 2, 1, 0, 0, 0, 0), 5, 2), ((11, .putfield 15, 3, 9, 1, 20, 453), 51, 0), ((14, .return_, 1, 0, 0, 0, 0), 1000, 0)]])
def al_mX10_open : ev_MeK := (al_yX10_open, prog_12_method_2_code, 2, none, [[((0, .aload_n 0, 1, 0, 0, 0, 0), 5, 0), ((1, .iload_n 1, 1, 0, 0, 0, 0), 1, 1), ((2, .putfield 19, 3, 9, 2, 0, 454), 51, 0), ((5, .aload_n 0, 1, 0, 0, 0, 0), 5, 0), ((6, .iconst 0, 1, 0, 0, 0, 0), 12, 0), ((7, .putfield 23, 3, 9, 3, 0, 455), 51, 0), ((10, .aload_n 0, 1, 0, 0, 0, 0), 5, 0), ((11, .iconst 1, 1, 1, 0, 0, 0), 12, 0), ((12, .putfield 26, 3, 9, 6, 0, 456), 51, 0), ((15, .aload_n 0, 1, 0, 0, 0, 0), 5, 0)],
  [((16, .iconst 0, 1, 0, 0, 0, 0), 12, 0), ((17, .putfield 29, 3, 9, 7, 0, 457), 51, 0), ((20, .aload_n 0, 1, 0, 0, 0, 0), 5, 0), ((21, .iconst 0, 1, 0, 0, 0, 0), 12, 0), ((22, .putfield 32, 3, 9, 4, 0, 458), 51, 0), ((25, .return_, 1, 0, 0, 0, 0), 1000, 0)]])
def al_mX10_begin : ev_MeK := (al_yX10_begin, prog_12_method_4_code, 3, (some .int), [[((0, .aload_n 0, 1, 0, 0, 0, 0), 5, 0), ((1, .getfield 32, 3, 9, 4, 0, 458), 50, 0), ((4, .iconst 5, 1, 5, 0, 0, 0), 12, 0), ((5, .if_icmp .ne 5, 3, 10, 0, 0, 0), 45, 0), ((8, .iconst 5, 1, 5, 0, 0, 0), 12, 0), ((9, .ireturn, 1, 0, 0, 0, 0), 1000, 0), ((10, .aload_n 0, 1, 0, 0, 0, 0), 5, 0), ((11, .aload_n 0, 1, 0, 0, 0, 0), 5, 0), ((12, .getfield 23, 3, 9, 3, 0, 455), 50, 0), ((15, .invokevirtual 35, 3, 74, 2, 9, 459), 56, 0)],
  [((18, .istore_n 1, 1, 0, 0, 0, 0), 7, 1), ((19, .aload_n 0, 1, 0, 0, 0, 0), 5, 0), ((20, .getfield 23, 3, 9, 3, 0, 455), 50, 0), ((23, .istore_n 2, 1, 0, 0, 0, 0), 7, 2), ((24, .iload_n 2, 1, 0, 0, 0, 0), 1, 2), ((25, .iload_n 1, 1, 0, 0, 0, 0), 1, 1), ((26, .if_icmp .ge 30, 3, 56, 0, 0, 0), 47, 0), ((29, .aload_n 0, 1, 0, 0, 0, 0), 5, 0), ((30, .getfield 9, 3, 9, 0, 20, 452), 50, 0)],
  [((33, .iload_n 2, 1, 0, 0, 0, 0), 1, 2), ((34, .baload, 1, 0, 0, 0, 0), 54, 0), ((35, .bipush 10, 2, 10, 0, 0, 0), 13, 0), ((37, .if_icmp .ne 13, 3, 50, 0, 0, 0), 45, 0), ((40, .aload_n 0, 1, 0, 0, 0, 0), 5, 0), ((41, .dup, 1, 0, 0, 0, 0), 35, 0), ((42, .getfield 26, 3, 9, 6, 0, 456), 50, 0), ((45, .iconst 1, 1, 1, 0, 0, 0), 12, 0), ((46, .iadd, 1, 0, 0, 0, 0), 16, 0), ((47, .putfield 26, 3, 9, 6, 0, 456), 51, 0)],
  [((50, .iinc 2 1, 3, 1, 0, 0, 0), 36, 2), ((53, .goto (-29), 3, 24, 0, 0, 0), 37, 0), ((56, .aload_n 0, 1, 0, 0, 0, 0), 5, 0), ((57, .iload_n 1, 1, 0, 0, 0, 0), 1, 1), ((58, .putfield 39, 3, 9, 5, 0, 460), 51, 0), ((61, .aload_n 0, 1, 0, 0, 0, 0), 5, 0), ((62, .iload_n 1, 1, 0, 0, 0, 0), 1, 1), ((63, .putfield 23, 3, 9, 3, 0, 455), 51, 0)],
  [((66, .aload_n 0, 1, 0, 0, 0, 0), 5, 0), ((67, .getfield 39, 3, 9, 5, 0, 460), 50, 0), ((70, .aload_n 0, 1, 0, 0, 0, 0), 5, 0), ((71, .getfield 19, 3, 9, 2, 0, 454), 50, 0), ((74, .if_icmp .lt 13, 3, 87, 0, 0, 0), 46, 0), ((77, .aload_n 0, 1, 0, 0, 0, 0), 5, 0), ((78, .iconst 0, 1, 0, 0, 0, 0), 12, 0), ((79, .putfield 32, 3, 9, 4, 0, 458), 51, 0)],
  [((82, .aload_n 0, 1, 0, 0, 0, 0), 5, 0), ((83, .getfield 32, 3, 9, 4, 0, 458), 50, 0), ((86, .ireturn, 1, 0, 0, 0, 0), 1000, 0), ((87, .aload_n 0, 1, 0, 0, 0, 0), 5, 0), ((88, .dup, 1, 0, 0, 0, 0), 35, 0), ((89, .getfield 29, 3, 9, 7, 0, 457), 50, 0), ((92, .iconst 1, 1, 1, 0, 0, 0), 12, 0), ((93, .iadd, 1, 0, 0, 0, 0), 16, 0), ((94, .putfield 29, 3, 9, 7, 0, 457), 51, 0)],
  [((97, .aload_n 0, 1, 0, 0, 0, 0), 5, 0), ((98, .getfield 9, 3, 9, 0, 20, 452), 50, 0), ((101, .aload_n 0, 1, 0, 0, 0, 0), 5, 0), ((102, .getfield 39, 3, 9, 5, 0, 460), 50, 0), ((105, .baload, 1, 0, 0, 0, 0), 54, 0), ((106, .istore_n 2, 1, 0, 0, 0, 0), 7, 2), ((107, .iload_n 2, 1, 0, 0, 0, 0), 1, 2), ((111, .ifCond .eq 5, 3, 116, 0, 0, 0), 38, 0)],
  [((114, .iconst 2, 1, 2, 0, 0, 0), 12, 0), ((115, .ireturn, 1, 0, 0, 0, 0), 1000, 0), ((116, .iload_n 2, 1, 0, 0, 0, 0), 1, 2), ((120, .ifCond .eq 5, 3, 125, 0, 0, 0), 38, 0), ((123, .iconst 3, 1, 3, 0, 0, 0), 12, 0), ((124, .ireturn, 1, 0, 0, 0, 0), 1000, 0), ((125, .iload_n 2, 1, 0, 0, 0, 0), 1, 2), ((126, .bipush 34, 2, 34, 0, 0, 0), 13, 0)],
  [((128, .if_icmp .eq 9, 3, 137, 0, 0, 0), 44, 0), ((131, .iload_n 2, 1, 0, 0, 0, 0), 1, 2), ((132, .bipush 39, 2, 39, 0, 0, 0), 13, 0), ((134, .if_icmp .ne 7, 3, 141, 0, 0, 0), 45, 0), ((137, .iconst 4, 1, 4, 0, 0, 0), 12, 0), ((138, .goto 4, 3, 142, 0, 0, 0), 37, 0), ((141, .iconst 1, 1, 1, 0, 0, 0), 12, 0), ((142, .ireturn, 1, 0, 0, 0, 0), 1000, 0)]])
def al_mX10_behindBlanks : ev_MeK := (al_yX10_behindBlanks, prog_12_method_7_code, 4, (some .int), [[((0, .iload_n 1, 1, 0, 0, 0, 0), 1, 1), ((1, .istore_n 2, 1, 0, 0, 0, 0), 7, 2), ((2, .iload_n 2, 1, 0, 0, 0, 0), 1, 2), ((3, .aload_n 0, 1, 0, 0, 0, 0), 5, 0), ((4, .getfield 19, 3, 9, 2, 0, 454), 50, 0), ((7, .if_icmp .ge 83, 3, 90, 0, 0, 0), 47, 0), ((10, .aload_n 0, 1, 0, 0, 0, 0), 5, 0), ((11, .getfield 9, 3, 9, 0, 20, 452), 50, 0), ((14, .iload_n 2, 1, 0, 0, 0, 0), 1, 2), ((15, .baload, 1, 0, 0, 0, 0), 54, 0)],
  [((16, .istore_n 3, 1, 0, 0, 0, 0), 7, 3), ((17, .iload_n 3, 1, 0, 0, 0, 0), 1, 3), ((18, .bipush 45, 2, 45, 0, 0, 0), 13, 0), ((20, .if_icmp .ne 40, 3, 60, 0, 0, 0), 45, 0), ((23, .aload_n 0, 1, 0, 0, 0, 0), 5, 0), ((24, .iload_n 2, 1, 0, 0, 0, 0), 1, 2), ((25, .iconst 1, 1, 1, 0, 0, 0), 12, 0), ((26, .iadd, 1, 0, 0, 0, 0), 16, 0), ((30, .bipush 45, 2, 45, 0, 0, 0), 13, 0)],
  [((32, .if_icmp .ne 28, 3, 60, 0, 0, 0), 45, 0), ((35, .iload_n 2, 1, 0, 0, 0, 0), 1, 2), ((36, .aload_n 0, 1, 0, 0, 0, 0), 5, 0), ((37, .getfield 19, 3, 9, 2, 0, 454), 50, 0), ((40, .if_icmp .ge 47, 3, 87, 0, 0, 0), 47, 0), ((43, .aload_n 0, 1, 0, 0, 0, 0), 5, 0), ((44, .getfield 9, 3, 9, 0, 20, 452), 50, 0), ((47, .iload_n 2, 1, 0, 0, 0, 0), 1, 2)],
  [((48, .baload, 1, 0, 0, 0, 0), 54, 0), ((49, .bipush 10, 2, 10, 0, 0, 0), 13, 0), ((51, .if_icmp .eq 36, 3, 87, 0, 0, 0), 44, 0), ((54, .iinc 2 1, 3, 1, 0, 0, 0), 36, 2), ((57, .goto (-22), 3, 35, 0, 0, 0), 37, 0), ((60, .iload_n 3, 1, 0, 0, 0, 0), 1, 3), ((61, .bipush 32, 2, 32, 0, 0, 0), 13, 0), ((63, .if_icmp .eq 21, 3, 84, 0, 0, 0), 44, 0)],
  [((66, .iload_n 3, 1, 0, 0, 0, 0), 1, 3), ((67, .bipush 9, 2, 9, 0, 0, 0), 13, 0), ((69, .if_icmp .eq 15, 3, 84, 0, 0, 0), 44, 0), ((72, .iload_n 3, 1, 0, 0, 0, 0), 1, 3), ((73, .bipush 13, 2, 13, 0, 0, 0), 13, 0), ((75, .if_icmp .eq 9, 3, 84, 0, 0, 0), 44, 0), ((78, .iload_n 3, 1, 0, 0, 0, 0), 1, 3), ((79, .bipush 10, 2, 10, 0, 0, 0), 13, 0)],
  [((81, .if_icmp .ne 9, 3, 90, 0, 0, 0), 45, 0), ((84, .iinc 2 1, 3, 1, 0, 0, 0), 36, 2), ((87, .goto (-85), 3, 2, 0, 0, 0), 37, 0), ((90, .iload_n 2, 1, 0, 0, 0, 0), 1, 2), ((91, .ireturn, 1, 0, 0, 0, 0), 1000, 0)]])
def al_mX4_init : ev_MeK := (al_yX4_init, prog_6_method_1_code, 4, none, [[((0, .aload_n 0, 1, 0, 0, 0, 0), 5, 0), ((1, .invokespecial 3, 3, 0, 0, 0, 461), 58, 0), ((4, .aload_n 0, 1, 0, 0, 0, 0), 5, 0), ((5, .sipush 1320, 3, 1320, 0, 0, 0), 14, 0), ((8, .newarray .int, 2, 0, 0, 0, 40), 58, 0), ((10, .putfield 11, 3, 10, 10, 20, 464), 51, 0), ((13, .aload_n 0, 1, 0, 0, 0, 0), 5, 0), ((14, .aload_n 1, 1, 0, 0, 0, 0), 5, 1), ((15, .putfield 15, 3, 10, 0, 20, 465), 51, 0)],
  [((18, .aload_n 0, 1, 0, 0, 0, 0), 5, 0), ((19, .aload_n 2, 1, 0, 0, 0, 0), 5, 2), ((20, .putfield 19, 3, 10, 1, 20, 466), 51, 0), ((23, .aload_n 0, 1, 0, 0, 0, 0), 5, 0), ((24, .aload_n 3, 1, 0, 0, 0, 0), 5, 3), ((25, .putfield 23, 3, 10, 2, 20, 467), 51, 0), ((28, .aload_n 0, 1, 0, 0, 0, 0), 5, 0), ((29, .new 27, 3, 11, 12, 0, 468), 58, 0)],
  [((32, .dup, 1, 0, 0, 0, 0), 35, 0), ((33, .aload_n 2, 1, 0, 0, 0, 0), 5, 2), ((34, .invokespecial 29, 3, 81, 2, 0, 471), 58, 0), ((37, .putfield 32, 3, 10, 3, 20, 472), 51, 0), ((40, .aload_n 3, 1, 0, 0, 0, 0), 5, 3), ((41, .invokevirtual 36, 3, 10, 1, 4, 473), 56, 0), ((44, .aload_n 3, 1, 0, 0, 0, 0), 5, 3), ((45, .ldc 41, 2, 92233720368547758084, 0, 0, 0), 59, 0), ((47, .invokevirtual 43, 3, 13, 2, 4, 474), 56, 0)],
  [((50, .aload_n 0, 1, 0, 0, 0, 0), 5, 0), ((51, .aload_n 3, 1, 0, 0, 0, 0), 5, 3), ((52, .invokevirtual 47, 3, 11, 1, 4, 475), 56, 0), ((55, .putfield 51, 3, 10, 12, 0, 476), 51, 0), ((58, .return_, 1, 0, 0, 0, 0), 1000, 0)]])
def al_mX4_judge : ev_MeK := (al_yX4_judge, prog_6_method_2_code, 2, (some .int), [[((0, .aload_n 0, 1, 0, 0, 0, 0), 5, 0), ((1, .getfield 23, 3, 10, 2, 20, 467), 50, 0), ((4, .invokevirtual 55, 3, 53, 1, 4, 477), 56, 0), ((7, .aload_n 0, 1, 0, 0, 0, 0), 5, 0), ((8, .getfield 23, 3, 10, 2, 20, 467), 50, 0), ((11, .invokevirtual 58, 3, 52, 1, 4, 478), 56, 0), ((14, .aload_n 0, 1, 0, 0, 0, 0), 5, 0), ((15, .getfield 19, 3, 10, 1, 20, 466), 50, 0)],
  [((18, .invokevirtual 61, 3, 56, 1, 5, 479), 56, 0), ((21, .aload_n 0, 1, 0, 0, 0, 0), 5, 0), ((22, .getfield 32, 3, 10, 3, 20, 472), 50, 0), ((25, .invokevirtual 66, 3, 82, 1, 11, 480), 56, 0), ((28, .aload_n 0, 1, 0, 0, 0, 0), 5, 0), ((29, .iconst 0, 1, 0, 0, 0, 0), 12, 0), ((30, .putfield 67, 3, 10, 4, 0, 481), 51, 0)],
  [((33, .aload_n 0, 1, 0, 0, 0, 0), 5, 0), ((34, .iconst 0, 1, 0, 0, 0, 0), 12, 0), ((35, .putfield 70, 3, 10, 11, 0, 482), 51, 0), ((38, .aload_n 0, 1, 0, 0, 0, 0), 5, 0), ((39, .getfield 19, 3, 10, 1, 20, 466), 50, 0), ((42, .getfield 73, 3, 5, 7, 20, 483), 50, 0), ((45, .aload_n 0, 1, 0, 0, 0, 0), 5, 0), ((46, .getfield 19, 3, 10, 1, 20, 466), 50, 0)],
  [((49, .iconst 0, 1, 0, 0, 0, 0), 12, 0), ((50, .invokevirtual 76, 3, 57, 2, 5, 484), 56, 0), ((53, .iconst 0, 1, 0, 0, 0, 0), 12, 0), ((54, .iastore, 1, 0, 0, 0, 0), 53, 0), ((55, .aload_n 0, 1, 0, 0, 0, 0), 5, 0), ((56, .getfield 19, 3, 10, 1, 20, 466), 50, 0), ((59, .getfield 80, 3, 5, 12, 20, 485), 50, 0), ((62, .iconst 0, 1, 0, 0, 0, 0), 12, 0), ((63, .iconst 1, 1, 1, 0, 0, 0), 12, 0)],
  [((64, .bastore, 1, 0, 0, 0, 0), 55, 0), ((65, .aload_n 0, 1, 0, 0, 0, 0), 5, 0), ((66, .getfield 32, 3, 10, 3, 20, 472), 50, 0), ((69, .iconst 0, 1, 0, 0, 0, 0), 12, 0), ((70, .invokevirtual 84, 3, 83, 2, 11, 486), 56, 0), ((73, .aload_n 0, 1, 0, 0, 0, 0), 5, 0), ((74, .getfield 15, 3, 10, 0, 20, 465), 50, 0), ((77, .iload_n 1, 1, 0, 0, 0, 0), 1, 1), ((78, .invokevirtual 88, 3, 72, 2, 9, 487), 56, 0)],
  [((81, .aload_n 0, 1, 0, 0, 0, 0), 5, 0), ((82, .invokevirtual 93, 3, 77, 1, 10, 488), 56, 0), ((85, .aload_n 0, 1, 0, 0, 0, 0), 5, 0), ((86, .iconst 0, 1, 0, 0, 0, 0), 12, 0), ((87, .iconst 0, 1, 0, 0, 0, 0), 12, 0), ((88, .iconst 0, 1, 0, 0, 0, 0), 12, 0), ((89, .iconst 0, 1, 0, 0, 0, 0), 12, 0), ((90, .invokevirtual 96, 3, 78, 5, 10, 489), 56, 0), ((93, .pop, 1, 0, 0, 0, 0), 58, 0), ((94, .aload_n 0, 1, 0, 0, 0, 0), 5, 0), ((95, .iconst 1, 1, 1, 0, 0, 0), 12, 0)],
  [((96, .invokevirtual 100, 3, 80, 2, 10, 490), 56, 0), ((99, .aload_n 0, 1, 0, 0, 0, 0), 5, 0), ((100, .getfield 15, 3, 10, 0, 20, 465), 50, 0), ((103, .getfield 103, 3, 9, 4, 0, 491), 50, 0), ((106, .ifCond .eq 8, 3, 114, 0, 0, 0), 38, 0), ((109, .aload_n 0, 1, 0, 0, 0, 0), 5, 0), ((110, .iconst 2, 1, 2, 0, 0, 0), 12, 0)],
  [((114, .aload_n 0, 1, 0, 0, 0, 0), 5, 0), ((115, .bipush 20, 2, 20, 0, 0, 0), 13, 0), ((117, .aload_n 0, 1, 0, 0, 0, 0), 5, 0), ((118, .getfield 32, 3, 10, 3, 20, 472), 50, 0), ((121, .invokevirtual 109, 3, 84, 1, 11, 492), 56, 0), ((124, .iconst 0, 1, 0, 0, 0, 0), 12, 0), ((125, .iconst 0, 1, 0, 0, 0, 0), 12, 0), ((126, .invokevirtual 96, 3, 78, 5, 10, 489), 56, 0)],
  [((129, .pop, 1, 0, 0, 0, 0), 58, 0), ((130, .aload_n 0, 1, 0, 0, 0, 0), 5, 0), ((131, .getfield 67, 3, 10, 4, 0, 481), 50, 0), ((134, .ireturn, 1, 0, 0, 0, 0), 1000, 0)]])
def al_mX4_next : ev_MeK := (al_yX4_next, prog_6_method_4_code, 1, none, [[((0, .aload_n 0, 1, 0, 0, 0, 0), 5, 0), ((1, .getfield 15, 3, 10, 0, 20, 465), 50, 0), ((4, .getfield 112, 3, 9, 7, 0, 493), 50, 0), ((7, .sipush 1500, 3, 1500, 0, 0, 0), 14, 0), ((10, .if_icmp .le 18, 3, 28, 0, 0, 0), 49, 0), ((13, .aload_n 0, 1, 0, 0, 0, 0), 5, 0), ((14, .getfield 15, 3, 10, 0, 20, 465), 50, 0)],
  [((17, .getfield 103, 3, 9, 4, 0, 491), 50, 0), ((20, .ifCond .eq 8, 3, 28, 0, 0, 0), 38, 0), ((23, .aload_n 0, 1, 0, 0, 0, 0), 5, 0), ((24, .iconst 3, 1, 3, 0, 0, 0), 12, 0), ((28, .aload_n 0, 1, 0, 0, 0, 0), 5, 0), ((29, .getfield 15, 3, 10, 0, 20, 465), 50, 0)],
  [((32, .invokevirtual 130, 3, 73, 1, 9, 494), 56, 0), ((35, .tableswitch 69 1 4 #[59, 29, 39, 49], 29, 0, 0, 0, 0), 58, 0)],
  [],
  [((64, .aload_n 0, 1, 0, 0, 0, 0), 5, 0), ((65, .getfield 15, 3, 10, 0, 20, 465), 50, 0), ((71, .goto 33, 3, 104, 0, 0, 0), 37, 0), ((74, .aload_n 0, 1, 0, 0, 0, 0), 5, 0), ((75, .getfield 15, 3, 10, 0, 20, 465), 50, 0)],
  [((81, .goto 23, 3, 104, 0, 0, 0), 37, 0), ((84, .aload_n 0, 1, 0, 0, 0, 0), 5, 0), ((85, .getfield 15, 3, 10, 0, 20, 465), 50, 0), ((91, .goto 13, 3, 104, 0, 0, 0), 37, 0), ((94, .aload_n 0, 1, 0, 0, 0, 0), 5, 0), ((95, .getfield 15, 3, 10, 0, 20, 465), 50, 0)],
  [((101, .goto 3, 3, 104, 0, 0, 0), 37, 0), ((104, .return_, 1, 0, 0, 0, 0), 1000, 0)]])
def al_mX4_emit : ev_MeK := (al_yX4_emit, prog_6_method_7_code, 5, (some .int), [[((0, .aload_n 0, 1, 0, 0, 0, 0), 5, 0), ((1, .getfield 19, 3, 10, 1, 20, 466), 50, 0), ((4, .iload_n 1, 1, 0, 0, 0, 0), 1, 1), ((5, .iload_n 2, 1, 0, 0, 0, 0), 1, 2), ((6, .iload_n 3, 1, 0, 0, 0, 0), 1, 3), ((7, .iload 4, 2, 0, 0, 0, 0), 0, 4), ((9, .invokevirtual 144, 3, 58, 5, 5, 495), 56, 0), ((12, .ireturn, 1, 0, 0, 0, 0), 1000, 0)]])
def al_mX4_startsStatement : ev_MeK := (al_yX4_startsStatement, prog_6_method_10_code, 1, (some .boolean), [[((0, .aload_n 0, 1, 0, 0, 0, 0), 5, 0), ((1, .getfield 15, 3, 10, 0, 20, 465), 50, 0), ((4, .getfield 103, 3, 9, 4, 0, 491), 50, 0), ((7, .lookupswitch 99 #[(2, 97), (11, 97), (12, 97), (17, 97), (18, 97), (19, 97), (21, 97), (25, 97), (30, 97), (51, 97), (57, 97)], 97, 0, 0, 0, 0), 59, 0)],
  [],
  [],
  [],
  [],
  [],
  [((104, .iconst 1, 1, 1, 0, 0, 0), 12, 0), ((105, .ireturn, 1, 0, 0, 0, 0), 1000, 0), ((106, .iconst 0, 1, 0, 0, 0, 0), 12, 0), ((107, .ireturn, 1, 0, 0, 0, 0), 1000, 0)]])
def al_mX4_block : ev_MeK := (al_yX4_block, prog_6_method_12_code, 3, none, [[((0, .iconst 0, 1, 0, 0, 0, 0), 12, 0), ((1, .istore_n 2, 1, 0, 0, 0, 0), 7, 2), ((2, .iload_n 2, 1, 0, 0, 0, 0), 1, 2), ((3, .sipush 1500, 3, 1500, 0, 0, 0), 14, 0), ((6, .if_icmp .gt 21, 3, 27, 0, 0, 0), 48, 0), ((9, .aload_n 0, 1, 0, 0, 0, 0), 5, 0), ((10, .invokevirtual 154, 3, 79, 1, 10, 496), 56, 0), ((13, .ifCond .eq 14, 3, 27, 0, 0, 0), 38, 0)],
  [((16, .aload_n 0, 1, 0, 0, 0, 0), 5, 0), ((17, .iload_n 1, 1, 0, 0, 0, 0), 1, 1), ((21, .iinc 2 1, 3, 1, 0, 0, 0), 36, 2), ((24, .goto (-22), 3, 2, 0, 0, 0), 37, 0), ((27, .aload_n 0, 1, 0, 0, 0, 0), 5, 0), ((28, .getfield 15, 3, 10, 0, 20, 465), 50, 0), ((31, .getfield 103, 3, 9, 4, 0, 491), 50, 0)],
  [((34, .bipush 26, 2, 26, 0, 0, 0), 13, 0), ((36, .if_icmp .ne 8, 3, 44, 0, 0, 0), 45, 0), ((39, .aload_n 0, 1, 0, 0, 0, 0), 5, 0), ((40, .iload_n 1, 1, 0, 0, 0, 0), 1, 1), ((44, .return_, 1, 0, 0, 0, 0), 1000, 0)]])
def al_mX7_init : ev_MeK := (al_yX7_init, prog_9_method_1_code, 2, none, [[((0, .aload_n 0, 1, 0, 0, 0, 0), 5, 0), ((1, .invokespecial 3, 3, 0, 0, 0, 497), 58, 0), ((4, .aload_n 0, 1, 0, 0, 0, 0), 5, 0), ((5, .sipush 1200, 3, 1200, 0, 0, 0), 14, 0), ((8, .newarray .int, 2, 0, 0, 0, 40), 58, 0), ((10, .putfield 13, 3, 11, 1, 20, 500), 51, 0), ((13, .aload_n 0, 1, 0, 0, 0, 0), 5, 0), ((14, .sipush 1200, 3, 1200, 0, 0, 0), 14, 0)],
  [((17, .newarray .int, 2, 0, 0, 0, 40), 58, 0), ((19, .putfield 17, 3, 11, 2, 20, 501), 51, 0), ((22, .aload_n 0, 1, 0, 0, 0, 0), 5, 0), ((23, .bipush 24, 2, 24, 0, 0, 0), 13, 0), ((25, .newarray .int, 2, 0, 0, 0, 40), 58, 0), ((27, .putfield 20, 3, 11, 4, 20, 502), 51, 0), ((30, .aload_n 0, 1, 0, 0, 0, 0), 5, 0), ((31, .bipush 24, 2, 24, 0, 0, 0), 13, 0)],
  [((33, .newarray .int, 2, 0, 0, 0, 40), 58, 0), ((35, .putfield 23, 3, 11, 5, 20, 503), 51, 0), ((38, .aload_n 0, 1, 0, 0, 0, 0), 5, 0), ((39, .bipush 24, 2, 24, 0, 0, 0), 13, 0), ((41, .newarray .int, 2, 0, 0, 0, 40), 58, 0), ((43, .putfield 26, 3, 11, 6, 20, 504), 51, 0), ((46, .aload_n 0, 1, 0, 0, 0, 0), 5, 0), ((47, .bipush 24, 2, 24, 0, 0, 0), 13, 0)],
  [((49, .newarray .int, 2, 0, 0, 0, 40), 58, 0), ((51, .putfield 29, 3, 11, 7, 20, 505), 51, 0), ((54, .aload_n 0, 1, 0, 0, 0, 0), 5, 0), ((55, .sipush 1500, 3, 1500, 0, 0, 0), 14, 0), ((58, .newarray .int, 2, 0, 0, 0, 40), 58, 0), ((60, .putfield 32, 3, 11, 9, 20, 506), 51, 0), ((63, .aload_n 0, 1, 0, 0, 0, 0), 5, 0)],
  [((64, .aload_n 1, 1, 0, 0, 0, 0), 5, 1), ((65, .putfield 35, 3, 11, 0, 20, 507), 51, 0), ((68, .return_, 1, 0, 0, 0, 0), 1000, 0)]])
def al_mX7_clear : ev_MeK := (al_yX7_clear, prog_9_method_2_code, 1, none, [[((0, .aload_n 0, 1, 0, 0, 0, 0), 5, 0), ((1, .iconst (-1), 1, 4294967295, 0, 0, 0), 12, 0), ((2, .putfield 39, 3, 11, 8, 0, 508), 51, 0), ((5, .aload_n 0, 1, 0, 0, 0, 0), 5, 0), ((6, .iconst 0, 1, 0, 0, 0, 0), 12, 0), ((7, .putfield 43, 3, 11, 3, 0, 509), 51, 0), ((10, .return_, 1, 0, 0, 0, 0), 1000, 0)]])
def al_mX7_enter : ev_MeK := (al_yX7_enter, prog_9_method_3_code, 2, none, [[((0, .aload_n 0, 1, 0, 0, 0, 0), 5, 0), ((1, .dup, 1, 0, 0, 0, 0), 35, 0), ((2, .getfield 39, 3, 11, 8, 0, 508), 50, 0), ((5, .iconst 1, 1, 1, 0, 0, 0), 12, 0), ((6, .iadd, 1, 0, 0, 0, 0), 16, 0), ((7, .putfield 39, 3, 11, 8, 0, 508), 51, 0), ((10, .aload_n 0, 1, 0, 0, 0, 0), 5, 0), ((11, .getfield 20, 3, 11, 4, 20, 502), 50, 0), ((14, .aload_n 0, 1, 0, 0, 0, 0), 5, 0), ((15, .getfield 39, 3, 11, 8, 0, 508), 50, 0)],
  [((18, .iload_n 1, 1, 0, 0, 0, 0), 1, 1), ((19, .iastore, 1, 0, 0, 0, 0), 53, 0), ((20, .aload_n 0, 1, 0, 0, 0, 0), 5, 0), ((21, .getfield 23, 3, 11, 5, 20, 503), 50, 0), ((24, .aload_n 0, 1, 0, 0, 0, 0), 5, 0), ((25, .getfield 39, 3, 11, 8, 0, 508), 50, 0), ((28, .aload_n 0, 1, 0, 0, 0, 0), 5, 0), ((29, .getfield 43, 3, 11, 3, 0, 509), 50, 0)],
  [((32, .iastore, 1, 0, 0, 0, 0), 53, 0), ((33, .aload_n 0, 1, 0, 0, 0, 0), 5, 0), ((34, .getfield 26, 3, 11, 6, 20, 504), 50, 0), ((37, .aload_n 0, 1, 0, 0, 0, 0), 5, 0), ((38, .getfield 39, 3, 11, 8, 0, 508), 50, 0), ((41, .iconst 0, 1, 0, 0, 0, 0), 12, 0), ((42, .iastore, 1, 0, 0, 0, 0), 53, 0), ((43, .aload_n 0, 1, 0, 0, 0, 0), 5, 0), ((44, .getfield 29, 3, 11, 7, 20, 505), 50, 0), ((47, .aload_n 0, 1, 0, 0, 0, 0), 5, 0)],
  [((48, .getfield 39, 3, 11, 8, 0, 508), 50, 0), ((51, .bipush (-2), 2, 4294967294, 0, 0, 0), 13, 0), ((53, .iastore, 1, 0, 0, 0, 0), 53, 0), ((54, .return_, 1, 0, 0, 0, 0), 1000, 0)]])
def al_mX7_height : ev_MeK := (al_yX7_height, prog_9_method_6_code, 1, (some .int), [[((0, .aload_n 0, 1, 0, 0, 0, 0), 5, 0), ((1, .getfield 26, 3, 11, 6, 20, 504), 50, 0), ((4, .aload_n 0, 1, 0, 0, 0, 0), 5, 0), ((5, .getfield 39, 3, 11, 8, 0, 508), 50, 0), ((8, .iaload, 1, 0, 0, 0, 0), 52, 0), ((9, .ireturn, 1, 0, 0, 0, 0), 1000, 0)]])
def al_mX0_init : ev_MeK := (al_yX0_init, prog_2_method_1_code, 4, none, [[((0, .aload_n 0, 1, 0, 0, 0, 0), 5, 0), ((1, .invokespecial 3, 3, 0, 0, 0, 510), 58, 0), ((4, .aload_n 0, 1, 0, 0, 0, 0), 5, 0), ((5, .sipush 2001, 3, 2001, 0, 0, 0), 14, 0), ((8, .newarray .byte, 2, 1, 0, 0, 43), 58, 0), ((10, .putfield 11, 3, 12, 3, 20, 513), 51, 0), ((13, .aload_n 0, 1, 0, 0, 0, 0), 5, 0), ((14, .sipush 2001, 3, 2001, 0, 0, 0), 14, 0)],
  [((17, .newarray .int, 2, 0, 0, 0, 40), 58, 0), ((19, .putfield 17, 3, 12, 4, 20, 514), 51, 0), ((22, .aload_n 0, 1, 0, 0, 0, 0), 5, 0), ((23, .sipush 2001, 3, 2001, 0, 0, 0), 14, 0), ((26, .newarray .int, 2, 0, 0, 0, 40), 58, 0), ((28, .putfield 21, 3, 12, 5, 20, 515), 51, 0), ((31, .aload_n 0, 1, 0, 0, 0, 0), 5, 0)],
  [((32, .sipush 2001, 3, 2001, 0, 0, 0), 14, 0), ((35, .newarray .int, 2, 0, 0, 0, 40), 58, 0), ((37, .putfield 24, 3, 12, 7, 20, 516), 51, 0), ((40, .aload_n 0, 1, 0, 0, 0, 0), 5, 0), ((41, .sipush 2001, 3, 2001, 0, 0, 0), 14, 0), ((44, .newarray .byte, 2, 1, 0, 0, 43), 58, 0), ((46, .putfield 27, 3, 12, 9, 20, 517), 51, 0)],
  [((49, .aload_n 0, 1, 0, 0, 0, 0), 5, 0), ((50, .sipush 2001, 3, 2001, 0, 0, 0), 14, 0), ((53, .newarray .int, 2, 0, 0, 0, 40), 58, 0), ((55, .putfield 30, 3, 12, 10, 20, 518), 51, 0), ((58, .aload_n 0, 1, 0, 0, 0, 0), 5, 0), ((59, .sipush 2001, 3, 2001, 0, 0, 0), 14, 0), ((62, .newarray .int, 2, 0, 0, 0, 40), 58, 0)],
  [((64, .putfield 33, 3, 12, 12, 20, 519), 51, 0), ((67, .aload_n 0, 1, 0, 0, 0, 0), 5, 0), ((68, .aload_n 1, 1, 0, 0, 0, 0), 5, 1), ((69, .putfield 36, 3, 12, 0, 20, 520), 51, 0), ((72, .aload_n 0, 1, 0, 0, 0, 0), 5, 0), ((73, .aload_n 2, 1, 0, 0, 0, 0), 5, 2), ((74, .putfield 40, 3, 12, 1, 20, 521), 51, 0), ((77, .aload_n 0, 1, 0, 0, 0, 0), 5, 0), ((78, .aload_n 3, 1, 0, 0, 0, 0), 5, 3), ((79, .putfield 44, 3, 12, 2, 20, 522), 51, 0)],
  [((82, .return_, 1, 0, 0, 0, 0), 1000, 0)]])
def al_mX0_clear : ev_MeK := (al_yX0_clear, prog_2_method_2_code, 1, none, [[((0, .aload_n 0, 1, 0, 0, 0, 0), 5, 0), ((1, .getfield 27, 3, 12, 9, 20, 517), 50, 0), ((4, .iconst 0, 1, 0, 0, 0, 0), 12, 0), ((5, .invokestatic 48, 3, 105, 2, 0, 523), 57, 0), ((8, .aload_n 0, 1, 0, 0, 0, 0), 5, 0), ((9, .iconst 0, 1, 0, 0, 0, 0), 12, 0), ((10, .putfield 54, 3, 12, 11, 0, 524), 51, 0), ((13, .aload_n 0, 1, 0, 0, 0, 0), 5, 0), ((14, .iconst 0, 1, 0, 0, 0, 0), 12, 0), ((15, .putfield 58, 3, 12, 13, 0, 525), 51, 0)],
  [((18, .aload_n 0, 1, 0, 0, 0, 0), 5, 0), ((19, .iconst 0, 1, 0, 0, 0, 0), 12, 0), ((20, .putfield 61, 3, 12, 14, 0, 526), 51, 0), ((23, .return_, 1, 0, 0, 0, 0), 1000, 0)]])
def al_mX2_init : ev_MeK := (al_yX2_init, prog_4_method_1_code, 6, none, [[((0, .aload_n 0, 1, 0, 0, 0, 0), 5, 0), ((1, .invokespecial 3, 3, 0, 0, 0, 527), 58, 0), ((4, .aload_n 0, 1, 0, 0, 0, 0), 5, 0), ((5, .aload_n 1, 1, 0, 0, 0, 0), 5, 1), ((6, .putfield 9, 3, 13, 0, 20, 530), 51, 0), ((9, .aload_n 0, 1, 0, 0, 0, 0), 5, 0), ((10, .aload_n 2, 1, 0, 0, 0, 0), 5, 2), ((11, .putfield 15, 3, 13, 1, 20, 531), 51, 0), ((14, .aload_n 0, 1, 0, 0, 0, 0), 5, 0), ((15, .aload_n 3, 1, 0, 0, 0, 0), 5, 3)],
  [((16, .putfield 19, 3, 13, 2, 20, 532), 51, 0), ((19, .aload_n 0, 1, 0, 0, 0, 0), 5, 0), ((20, .aload 4, 2, 0, 0, 0, 0), 4, 4), ((22, .putfield 23, 3, 13, 3, 20, 533), 51, 0), ((25, .aload_n 0, 1, 0, 0, 0, 0), 5, 0), ((26, .aload 5, 2, 0, 0, 0, 0), 4, 5), ((28, .putfield 27, 3, 13, 4, 20, 534), 51, 0), ((31, .aload_n 0, 1, 0, 0, 0, 0), 5, 0)],
  [((32, .new 31, 3, 14, 16, 0, 535), 58, 0), ((35, .dup, 1, 0, 0, 0, 0), 35, 0), ((36, .aload_n 2, 1, 0, 0, 0, 0), 5, 2), ((37, .aload_n 3, 1, 0, 0, 0, 0), 5, 3), ((38, .aload 4, 2, 0, 0, 0, 0), 4, 4), ((40, .aload 5, 2, 0, 0, 0, 0), 4, 5), ((42, .invokespecial 33, 3, 89, 5, 0, 538), 58, 0), ((45, .putfield 36, 3, 13, 5, 20, 539), 51, 0)],
  [((48, .return_, 1, 0, 0, 0, 0), 1000, 0)]])
def al_mX2_reset : ev_MeK := (al_yX2_reset, prog_4_method_2_code, 1, none, [[((0, .aload_n 0, 1, 0, 0, 0, 0), 5, 0), ((1, .getfield 15, 3, 13, 1, 20, 531), 50, 0), ((4, .invokevirtual 40, 3, 53, 1, 4, 540), 56, 0), ((7, .aload_n 0, 1, 0, 0, 0, 0), 5, 0), ((8, .getfield 23, 3, 13, 3, 20, 533), 50, 0), ((11, .invokevirtual 45, 3, 66, 1, 7, 541), 56, 0), ((14, .aload_n 0, 1, 0, 0, 0, 0), 5, 0), ((15, .getfield 19, 3, 13, 2, 20, 532), 50, 0)],
  [((18, .invokevirtual 50, 3, 60, 1, 6, 542), 56, 0), ((21, .aload_n 0, 1, 0, 0, 0, 0), 5, 0), ((22, .getfield 27, 3, 13, 4, 20, 534), 50, 0), ((25, .invokevirtual 53, 3, 86, 1, 12, 543), 56, 0), ((28, .aload_n 0, 1, 0, 0, 0, 0), 5, 0), ((29, .getfield 36, 3, 13, 5, 20, 539), 50, 0)],
  [((32, .invokevirtual 56, 3, 91, 1, 14, 544), 56, 0), ((35, .aload_n 0, 1, 0, 0, 0, 0), 5, 0), ((36, .iconst 2, 1, 2, 0, 0, 0), 12, 0), ((37, .putfield 59, 3, 13, 7, 0, 545), 51, 0), ((40, .aload_n 0, 1, 0, 0, 0, 0), 5, 0), ((41, .lconst 0, 1, 0, 0, 0, 0), 15, 0), ((42, .putfield 63, 3, 13, 8, 10, 546), 51, 0), ((45, .aload_n 0, 1, 0, 0, 0, 0), 5, 0), ((46, .iconst 0, 1, 0, 0, 0, 0), 12, 0), ((47, .putfield 67, 3, 13, 10, 0, 547), 51, 0)],
  [((50, .aload_n 0, 1, 0, 0, 0, 0), 5, 0), ((51, .iconst 0, 1, 0, 0, 0, 0), 12, 0), ((52, .putfield 70, 3, 13, 11, 0, 548), 51, 0), ((55, .aload_n 0, 1, 0, 0, 0, 0), 5, 0), ((56, .aload_n 0, 1, 0, 0, 0, 0), 5, 0), ((57, .getfield 23, 3, 13, 3, 20, 533), 50, 0), ((60, .getfield 73, 3, 7, 10, 20, 549), 50, 0), ((63, .iconst 0, 1, 0, 0, 0, 0), 12, 0)],
  [((64, .aaload, 1, 0, 0, 0, 0), 58, 0), ((65, .putfield 77, 3, 13, 6, 20, 550), 51, 0), ((68, .aload_n 0, 1, 0, 0, 0, 0), 5, 0), ((69, .getfield 77, 3, 13, 6, 20, 550), 50, 0), ((72, .iconst 0, 1, 0, 0, 0, 0), 12, 0), ((73, .iconst 0, 1, 0, 0, 0, 0), 12, 0), ((74, .aload_n 0, 1, 0, 0, 0, 0), 5, 0), ((75, .getfield 9, 3, 13, 0, 20, 530), 50, 0), ((78, .getfield 83, 3, 5, 7, 20, 551), 50, 0)],
  [((81, .iconst 0, 1, 0, 0, 0, 0), 12, 0), ((82, .iaload, 1, 0, 0, 0, 0), 52, 0), ((83, .iconst 0, 1, 0, 0, 0, 0), 12, 0), ((84, .iconst 0, 1, 0, 0, 0, 0), 12, 0), ((85, .iconst (-1), 1, 4294967295, 0, 0, 0), 12, 0), ((86, .iconst 0, 1, 0, 0, 0, 0), 12, 0), ((87, .invokevirtual 89, 3, 70, 8, 8, 552), 56, 0), ((90, .return_, 1, 0, 0, 0, 0), 1000, 0)]])
def al_mX1_init : ev_MeK := (al_yX1_init, prog_3_method_1_code, 6, none, [[((0, .aload_n 0, 1, 0, 0, 0, 0), 5, 0), ((1, .invokespecial 3, 3, 0, 0, 0, 553), 58, 0), ((4, .aload_n 0, 1, 0, 0, 0, 0), 5, 0), ((5, .bipush 33, 2, 33, 0, 0, 0), 13, 0), ((7, .newarray .int, 2, 0, 0, 0, 40), 58, 0), ((9, .putfield 11, 3, 14, 4, 20, 556), 51, 0), ((12, .aload_n 0, 1, 0, 0, 0, 0), 5, 0), ((13, .bipush 33, 2, 33, 0, 0, 0), 13, 0), ((15, .newarray .int, 2, 0, 0, 0, 40), 58, 0)],
  [((17, .putfield 15, 3, 14, 5, 20, 557), 51, 0), ((20, .aload_n 0, 1, 0, 0, 0, 0), 5, 0), ((21, .iconst 4, 1, 4, 0, 0, 0), 12, 0), ((22, .newarray .int, 2, 0, 0, 0, 40), 58, 0), ((24, .putfield 18, 3, 14, 6, 20, 558), 51, 0), ((27, .aload_n 0, 1, 0, 0, 0, 0), 5, 0), ((28, .sipush 3000, 3, 3000, 0, 0, 0), 14, 0), ((31, .newarray .byte, 2, 1, 0, 0, 43), 58, 0)],
  [((33, .putfield 21, 3, 14, 8, 20, 559), 51, 0), ((36, .aload_n 0, 1, 0, 0, 0, 0), 5, 0), ((37, .aload_n 1, 1, 0, 0, 0, 0), 5, 1), ((38, .putfield 25, 3, 14, 0, 20, 32), 51, 0), ((41, .aload_n 0, 1, 0, 0, 0, 0), 5, 0), ((42, .aload_n 2, 1, 0, 0, 0, 0), 5, 2), ((43, .putfield 29, 3, 14, 1, 20, 560), 51, 0), ((46, .aload_n 0, 1, 0, 0, 0, 0), 5, 0), ((47, .aload_n 3, 1, 0, 0, 0, 0), 5, 3)],
  [((48, .putfield 33, 3, 14, 2, 20, 561), 51, 0), ((51, .aload_n 0, 1, 0, 0, 0, 0), 5, 0), ((52, .aload 4, 2, 0, 0, 0, 0), 4, 4), ((54, .putfield 37, 3, 14, 3, 20, 562), 51, 0), ((57, .aload_n 0, 1, 0, 0, 0, 0), 5, 0), ((58, .ldc 41, 2, 92233720368547758085, 0, 0, 0), 59, 0), ((60, .iconst 0, 1, 0, 0, 0, 0), 12, 0), ((61, .invokevirtual 43, 3, 90, 3, 14, 563), 56, 0)],
  [((64, .istore 5, 2, 0, 0, 0, 0), 6, 5), ((66, .aload_n 0, 1, 0, 0, 0, 0), 5, 0), ((67, .ldc 47, 2, 92233720368547758086, 0, 0, 0), 59, 0), ((69, .iload 5, 2, 0, 0, 0, 0), 0, 5), ((71, .invokevirtual 43, 3, 90, 3, 14, 563), 56, 0), ((74, .istore 5, 2, 0, 0, 0, 0), 6, 5), ((76, .aload_n 0, 1, 0, 0, 0, 0), 5, 0), ((77, .ldc 49, 2, 92233720368547758087, 0, 0, 0), 59, 0), ((79, .iload 5, 2, 0, 0, 0, 0), 0, 5)],
  [((81, .invokevirtual 43, 3, 90, 3, 14, 563), 56, 0), ((84, .istore 5, 2, 0, 0, 0, 0), 6, 5), ((86, .aload_n 0, 1, 0, 0, 0, 0), 5, 0), ((87, .ldc 51, 2, 92233720368547758088, 0, 0, 0), 59, 0), ((89, .iload 5, 2, 0, 0, 0, 0), 0, 5), ((91, .invokevirtual 43, 3, 90, 3, 14, 563), 56, 0), ((94, .pop, 1, 0, 0, 0, 0), 58, 0), ((95, .aload_n 0, 1, 0, 0, 0, 0), 5, 0)],
  [((96, .getfield 18, 3, 14, 6, 20, 558), 50, 0), ((99, .iconst 1, 1, 1, 0, 0, 0), 12, 0), ((100, .aload_n 0, 1, 0, 0, 0, 0), 5, 0), ((101, .ldc 53, 2, 92233720368547758089, 0, 0, 0), 59, 0), ((103, .invokevirtual 55, 3, 15, 2, 14, 564), 56, 0), ((106, .iastore, 1, 0, 0, 0, 0), 53, 0), ((107, .aload_n 0, 1, 0, 0, 0, 0), 5, 0), ((108, .getfield 18, 3, 14, 6, 20, 558), 50, 0), ((111, .iconst 2, 1, 2, 0, 0, 0), 12, 0)],
  [((112, .aload_n 0, 1, 0, 0, 0, 0), 5, 0), ((113, .ldc 59, 2, 92233720368547758090, 0, 0, 0), 59, 0), ((115, .invokevirtual 55, 3, 15, 2, 14, 564), 56, 0), ((118, .iastore, 1, 0, 0, 0, 0), 53, 0), ((119, .aload_n 0, 1, 0, 0, 0, 0), 5, 0), ((120, .getfield 18, 3, 14, 6, 20, 558), 50, 0), ((123, .iconst 3, 1, 3, 0, 0, 0), 12, 0), ((124, .aload_n 0, 1, 0, 0, 0, 0), 5, 0), ((125, .ldc 61, 2, 92233720368547758091, 0, 0, 0), 59, 0), ((127, .invokevirtual 55, 3, 15, 2, 14, 564), 56, 0)],
  [((130, .iastore, 1, 0, 0, 0, 0), 53, 0), ((131, .aload_n 0, 1, 0, 0, 0, 0), 5, 0), ((132, .aload_n 0, 1, 0, 0, 0, 0), 5, 0), ((133, .ldc 63, 2, 92233720368547758092, 0, 0, 0), 59, 0), ((135, .invokevirtual 55, 3, 15, 2, 14, 564), 56, 0), ((138, .putfield 65, 3, 14, 7, 0, 565), 51, 0), ((141, .return_, 1, 0, 0, 0, 0), 1000, 0)]])
def al_mX1_keepNames : ev_MeK := (al_yX1_keepNames, prog_3_method_2_code, 7, (some .int), [[((0, .iload_n 2, 1, 0, 0, 0, 0), 1, 2), ((1, .istore_n 3, 1, 0, 0, 0, 0), 7, 3), ((2, .iconst 0, 1, 0, 0, 0, 0), 12, 0), ((3, .istore 4, 2, 0, 0, 0, 0), 6, 4), ((5, .iconst 0, 1, 0, 0, 0, 0), 12, 0), ((6, .istore 5, 2, 0, 0, 0, 0), 6, 5), ((8, .iload 5, 2, 0, 0, 0, 0), 0, 5), ((10, .aload_n 1, 1, 0, 0, 0, 0), 59, 1), ((11, .invokevirtual 69, 3, 6, 1, 1, 566), 59, 0), ((14, .if_icmp .ge 81, 3, 95, 0, 0, 0), 47, 0)],
  [((17, .iload_n 3, 1, 0, 0, 0, 0), 1, 3), ((18, .bipush 32, 2, 32, 0, 0, 0), 13, 0), ((20, .if_icmp .ge 75, 3, 95, 0, 0, 0), 47, 0), ((23, .aload_n 1, 1, 0, 0, 0, 0), 59, 1), ((24, .iload 5, 2, 0, 0, 0, 0), 0, 5), ((26, .invokevirtual 75, 3, 1, 2, 1, 567), 59, 0), ((29, .bipush 32, 2, 32, 0, 0, 0), 13, 0), ((31, .if_icmp .ne 58, 3, 89, 0, 0, 0), 45, 0)],
  [((34, .aload_n 1, 1, 0, 0, 0, 0), 59, 1), ((35, .iload 4, 2, 0, 0, 0, 0), 0, 4), ((37, .iload 5, 2, 0, 0, 0, 0), 0, 5), ((39, .invokevirtual 79, 3, 96, 3, 1, 568), 59, 0), ((42, .astore 6, 2, 0, 0, 0, 0), 10, 6), ((44, .iinc 3 1, 3, 1, 0, 0, 0), 36, 3), ((47, .aload_n 0, 1, 0, 0, 0, 0), 59, 0)],
  [((48, .getfield 11, 3, 14, 4, 20, 556), 50, 0), ((51, .iload_n 3, 1, 0, 0, 0, 0), 1, 3), ((52, .aload_n 0, 1, 0, 0, 0, 0), 59, 0), ((53, .aload 6, 2, 0, 0, 0, 0), 59, 6), ((55, .invokevirtual 83, 3, 14, 2, 14, 569), 56, 0), ((58, .iastore, 1, 0, 0, 0, 0), 53, 0), ((59, .aload_n 0, 1, 0, 0, 0, 0), 59, 0), ((60, .getfield 15, 3, 14, 5, 20, 557), 50, 0), ((63, .iload_n 3, 1, 0, 0, 0, 0), 1, 3)],
  [((64, .aload_n 0, 1, 0, 0, 0, 0), 59, 0), ((65, .aload 6, 2, 0, 0, 0, 0), 59, 6), ((67, .aload 6, 2, 0, 0, 0, 0), 59, 6), ((69, .bipush 46, 2, 46, 0, 0, 0), 13, 0), ((71, .invokevirtual 86, 3, 93, 2, 1, 570), 59, 0), ((74, .iconst 1, 1, 1, 0, 0, 0), 12, 0), ((75, .iadd, 1, 0, 0, 0, 0), 16, 0), ((76, .invokevirtual 90, 3, 95, 2, 1, 571), 59, 0), ((79, .invokevirtual 55, 3, 15, 2, 14, 564), 56, 0)],
  [((82, .iastore, 1, 0, 0, 0, 0), 53, 0), ((83, .iload 5, 2, 0, 0, 0, 0), 0, 5), ((85, .iconst 1, 1, 1, 0, 0, 0), 12, 0), ((86, .iadd, 1, 0, 0, 0, 0), 16, 0), ((87, .istore 4, 2, 0, 0, 0, 0), 6, 4), ((89, .iinc 5 1, 3, 1, 0, 0, 0), 36, 5), ((92, .goto (-84), 3, 8, 0, 0, 0), 37, 0), ((95, .iload_n 3, 1, 0, 0, 0, 0), 1, 3)],
  [((96, .ireturn, 1, 0, 0, 0, 0), 1000, 0)]])
def al_mX1_furnish : ev_MeK := (al_yX1_furnish, prog_3_method_5_code, 3, none, [[((0, .aload_n 0, 1, 0, 0, 0, 0), 5, 0), ((1, .lconst 0, 1, 0, 0, 0, 0), 15, 0), ((2, .putfield 108, 3, 14, 9, 10, 572), 51, 0), ((5, .iconst 1, 1, 1, 0, 0, 0), 12, 0), ((6, .istore_n 1, 1, 0, 0, 0, 0), 7, 1), ((7, .iload_n 1, 1, 0, 0, 0, 0), 1, 1), ((8, .iconst 3, 1, 3, 0, 0, 0), 12, 0), ((9, .if_icmp .gt 14, 3, 23, 0, 0, 0), 48, 0), ((12, .aload_n 0, 1, 0, 0, 0, 0), 5, 0), ((13, .invokevirtual 112, 3, 92, 1, 14, 573), 56, 0)],
  [((16, .pop, 1, 0, 0, 0, 0), 58, 0), ((17, .iinc 1 1, 3, 1, 0, 0, 0), 36, 1), ((20, .goto (-13), 3, 7, 0, 0, 0), 37, 0), ((23, .iconst 1, 1, 1, 0, 0, 0), 12, 0), ((24, .istore_n 1, 1, 0, 0, 0, 0), 7, 1), ((25, .iload_n 1, 1, 0, 0, 0, 0), 1, 1), ((26, .bipush 32, 2, 32, 0, 0, 0), 13, 0), ((28, .if_icmp .ge 62, 3, 90, 0, 0, 0), 47, 0), ((31, .iload_n 1, 1, 0, 0, 0, 0), 1, 1)],
  [((32, .bipush 17, 2, 17, 0, 0, 0), 13, 0), ((34, .if_icmp .gt 7, 3, 41, 0, 0, 0), 48, 0), ((37, .iconst 0, 1, 0, 0, 0, 0), 12, 0), ((38, .goto 24, 3, 62, 0, 0, 0), 37, 0), ((41, .iload_n 1, 1, 0, 0, 0, 0), 1, 1), ((42, .bipush 22, 2, 22, 0, 0, 0), 13, 0), ((44, .if_icmp .gt 7, 3, 51, 0, 0, 0), 48, 0), ((47, .iconst 1, 1, 1, 0, 0, 0), 12, 0)],
  [((48, .goto 14, 3, 62, 0, 0, 0), 37, 0), ((51, .iload_n 1, 1, 0, 0, 0, 0), 1, 1), ((52, .bipush 26, 2, 26, 0, 0, 0), 13, 0), ((54, .if_icmp .gt 7, 3, 61, 0, 0, 0), 48, 0), ((57, .iconst 2, 1, 2, 0, 0, 0), 12, 0), ((58, .goto 4, 3, 62, 0, 0, 0), 37, 0), ((61, .iconst 3, 1, 3, 0, 0, 0), 12, 0), ((62, .istore_n 2, 1, 0, 0, 0, 0), 7, 2), ((63, .aload_n 0, 1, 0, 0, 0, 0), 5, 0)],
  [((64, .getfield 29, 3, 14, 1, 20, 560), 50, 0), ((67, .iload_n 2, 1, 0, 0, 0, 0), 1, 2), ((68, .iconst 3, 1, 3, 0, 0, 0), 12, 0), ((69, .aload_n 0, 1, 0, 0, 0, 0), 5, 0), ((70, .getfield 15, 3, 14, 5, 20, 557), 50, 0), ((73, .iload_n 1, 1, 0, 0, 0, 0), 1, 1), ((74, .iaload, 1, 0, 0, 0, 0), 52, 0), ((75, .i2l, 1, 0, 0, 0, 0), 26, 0), ((76, .iconst 5, 1, 5, 0, 0, 0), 12, 0), ((77, .iload_n 1, 1, 0, 0, 0, 0), 1, 1), ((78, .ineg, 1, 0, 0, 0, 0), 23, 0), ((79, .i2l, 1, 0, 0, 0, 0), 26, 0)],
  [((80, .invokevirtual 115, 3, 63, 6, 6, 574), 56, 0), ((83, .pop, 1, 0, 0, 0, 0), 58, 0), ((84, .iinc 1 1, 3, 1, 0, 0, 0), 36, 1), ((87, .goto (-62), 3, 25, 0, 0, 0), 37, 0), ((90, .iconst 1, 1, 1, 0, 0, 0), 12, 0), ((91, .istore_n 1, 1, 0, 0, 0, 0), 7, 1), ((92, .iload_n 1, 1, 0, 0, 0, 0), 1, 1), ((93, .iconst 3, 1, 3, 0, 0, 0), 12, 0), ((94, .if_icmp .gt 29, 3, 123, 0, 0, 0), 48, 0)],
  [((97, .aload_n 0, 1, 0, 0, 0, 0), 5, 0), ((98, .getfield 29, 3, 14, 1, 20, 560), 50, 0), ((101, .iconst 0, 1, 0, 0, 0, 0), 12, 0), ((102, .iconst 3, 1, 3, 0, 0, 0), 12, 0), ((103, .aload_n 0, 1, 0, 0, 0, 0), 5, 0), ((104, .getfield 18, 3, 14, 6, 20, 558), 50, 0), ((107, .iload_n 1, 1, 0, 0, 0, 0), 1, 1), ((108, .iaload, 1, 0, 0, 0, 0), 52, 0), ((109, .i2l, 1, 0, 0, 0, 0), 26, 0), ((110, .iconst 4, 1, 4, 0, 0, 0), 12, 0), ((111, .iload_n 1, 1, 0, 0, 0, 0), 1, 1)],
  [((112, .i2l, 1, 0, 0, 0, 0), 26, 0), ((113, .invokevirtual 115, 3, 63, 6, 6, 574), 56, 0), ((116, .pop, 1, 0, 0, 0, 0), 58, 0), ((117, .iinc 1 1, 3, 1, 0, 0, 0), 36, 1), ((120, .goto (-28), 3, 92, 0, 0, 0), 37, 0), ((123, .return_, 1, 0, 0, 0, 0), 1000, 0)]])
def al_mX1_newTable : ev_MeK := (al_yX1_newTable, prog_3_method_6_code, 2, (some .int), [[((0, .aload_n 0, 1, 0, 0, 0, 0), 5, 0), ((1, .getfield 33, 3, 14, 2, 20, 561), 50, 0), ((4, .iconst 4, 1, 4, 0, 0, 0), 12, 0), ((5, .invokevirtual 121, 3, 67, 2, 7, 575), 56, 0), ((8, .istore_n 1, 1, 0, 0, 0, 0), 7, 1), ((9, .iload_n 1, 1, 0, 0, 0, 0), 1, 1), ((10, .ifCond .eq 11, 3, 21, 0, 0, 0), 38, 0), ((13, .aload_n 0, 1, 0, 0, 0, 0), 5, 0), ((14, .getfield 29, 3, 14, 1, 20, 560), 50, 0)],
  [((17, .iload_n 1, 1, 0, 0, 0, 0), 1, 1), ((18, .invokevirtual 126, 3, 61, 2, 6, 576), 56, 0), ((21, .iload_n 1, 1, 0, 0, 0, 0), 1, 1), ((22, .ireturn, 1, 0, 0, 0, 0), 1000, 0)]])
def al_mJ0_indexOf_0f7a4 : ev_MeK := (al_yJ0_indexOf_0f7a4, prog_28_method_79_code, 2, (some .int), [[((0, .aload_n 0, 1, 0, 0, 0, 0), 59, 0), ((1, .iload_n 1, 1, 0, 0, 0, 0), 1, 1), ((2, .iconst 0, 1, 0, 0, 0, 0), 12, 0), ((3, .invokevirtual 633, 3, 94, 3, 1, 577), 59, 0), ((6, .ireturn, 1, 0, 0, 0, 0), 1000, 0)]])
def al_mJ0_indexOf_7cf53 : ev_MeK := (al_yJ0_indexOf_7cf53, prog_28_method_80_code, 3, (some .int), [[((0, .aload_n 0, 1, 0, 0, 0, 0), 59, 0), ((1, .invokevirtual 492, 3, 2, 1, 1, 2), 59, 0), ((4, .ifCond .eq 19, 3, 23, 0, 0, 0), 38, 0), ((7, .aload_n 0, 1, 0, 0, 0, 0), 59, 0), ((8, .getfield 9, 3, 1, 0, 20, 3), 59, 0), ((11, .iload_n 1, 1, 0, 0, 0, 0), 1, 1), ((12, .iload_n 2, 1, 0, 0, 0, 0), 1, 2), ((13, .aload_n 0, 1, 0, 0, 0, 0), 59, 0), ((14, .invokevirtual 505, 3, 6, 1, 1, 578), 59, 0)],
  [((17, .invokestatic 637, 3, 100, 4, 0, 579), 57, 0), ((20, .goto 16, 3, 36, 0, 0, 0), 37, 0), ((23, .aload_n 0, 1, 0, 0, 0, 0), 59, 0), ((24, .getfield 9, 3, 1, 0, 20, 3), 59, 0), ((27, .iload_n 1, 1, 0, 0, 0, 0), 1, 1), ((28, .iload_n 2, 1, 0, 0, 0, 0), 1, 2), ((29, .aload_n 0, 1, 0, 0, 0, 0), 59, 0), ((30, .invokevirtual 505, 3, 6, 1, 1, 578), 59, 0)],
  [((36, .ireturn, 1, 0, 0, 0, 0), 1000, 0)]])
def al_mJ0_substring_b52d3 : ev_MeK := (al_yJ0_substring_b52d3, prog_28_method_91_code, 2, (some (.object "java/lang/String")), [[((0, .aload_n 0, 1, 0, 0, 0, 0), 59, 0), ((1, .iload_n 1, 1, 0, 0, 0, 0), 1, 1), ((2, .aload_n 0, 1, 0, 0, 0, 0), 59, 0), ((3, .invokevirtual 505, 3, 6, 1, 1, 578), 59, 0), ((6, .invokevirtual 681, 3, 96, 3, 1, 580), 59, 0), ((9, .areturn, 1, 0, 0, 0, 0), 1000, 0)]])
def al_mJ0_substring_37a41 : ev_MeK := (al_yJ0_substring_37a41, prog_28_method_92_code, 5, (some (.object "java/lang/String")), [[((0, .aload_n 0, 1, 0, 0, 0, 0), 59, 0), ((1, .invokevirtual 505, 3, 6, 1, 1, 578), 59, 0), ((4, .istore_n 3, 1, 0, 0, 0, 0), 7, 3), ((5, .iload_n 1, 1, 0, 0, 0, 0), 1, 1), ((6, .iload_n 2, 1, 0, 0, 0, 0), 1, 2), ((7, .iload_n 3, 1, 0, 0, 0, 0), 1, 3), ((8, .invokestatic 521, 3, 98, 3, 0, 581), 57, 0), ((11, .iload_n 1, 1, 0, 0, 0, 0), 1, 1), ((12, .ifCond .ne 10, 3, 22, 0, 0, 0), 39, 0), ((15, .iload_n 2, 1, 0, 0, 0, 0), 1, 2)],
  [((16, .iload_n 3, 1, 0, 0, 0, 0), 1, 3), ((17, .if_icmp .ne 5, 3, 22, 0, 0, 0), 45, 0), ((20, .aload_n 0, 1, 0, 0, 0, 0), 59, 0), ((21, .areturn, 1, 0, 0, 0, 0), 1000, 0), ((22, .iload_n 2, 1, 0, 0, 0, 0), 1, 2), ((23, .iload_n 1, 1, 0, 0, 0, 0), 1, 1), ((24, .isub, 1, 0, 0, 0, 0), 17, 0), ((25, .istore 4, 2, 0, 0, 0, 0), 6, 4), ((27, .aload_n 0, 1, 0, 0, 0, 0), 59, 0), ((28, .invokevirtual 492, 3, 2, 1, 1, 2), 59, 0), ((31, .ifCond .eq 16, 3, 47, 0, 0, 0), 38, 0)],
  [((34, .aload_n 0, 1, 0, 0, 0, 0), 59, 0), ((35, .getfield 9, 3, 1, 0, 20, 3), 59, 0), ((38, .iload_n 1, 1, 0, 0, 0, 0), 1, 1), ((39, .iload 4, 2, 0, 0, 0, 0), 0, 4), ((41, .invokestatic 685, 3, 102, 3, 0, 582), 57, 0), ((44, .goto 13, 3, 57, 0, 0, 0), 37, 0), ((47, .aload_n 0, 1, 0, 0, 0, 0), 59, 0)],
  [((48, .getfield 9, 3, 1, 0, 20, 3), 59, 0), ((51, .iload_n 1, 1, 0, 0, 0, 0), 1, 1), ((52, .iload 4, 2, 0, 0, 0, 0), 0, 4), ((57, .areturn, 1, 0, 0, 0, 0), 1000, 0)]])
def al_mJ0_init_031fb : ev_MeK := (al_yJ0_init_031fb, prog_28_method_151_code, 3, none, [[((0, .aload_n 0, 1, 0, 0, 0, 0), 59, 0), ((1, .invokespecial 1, 3, 0, 0, 0, 583), 58, 0), ((4, .aload_n 0, 1, 0, 0, 0, 0), 59, 0), ((5, .aload_n 1, 1, 0, 0, 0, 0), 59, 1), ((6, .putfield 9, 3, 1, 0, 20, 3), 51, 0), ((9, .aload_n 0, 1, 0, 0, 0, 0), 59, 0), ((10, .iload_n 2, 1, 0, 0, 0, 0), 1, 2), ((11, .putfield 15, 3, 1, 1, 1, 6), 51, 0), ((14, .return_, 1, 0, 0, 0, 0), 1000, 0)]])
def al_mJ0_checkBoundsBeginEnd_23922 : ev_MeK := (al_yJ0_checkBoundsBeginEnd_23922, prog_28_method_158_code, 3, none, [[((0, .iload_n 0, 1, 0, 0, 0, 0), 1, 0), ((1, .iload_n 1, 1, 0, 0, 0, 0), 1, 1), ((2, .iload_n 2, 1, 0, 0, 0, 0), 1, 2), ((3, .getstatic 1053, 3, 129127208515966861312, 0, 0, 8), 59, 0), ((6, .invokestatic 1062, 3, 103, 4, 0, 586), 57, 0), ((9, .pop, 1, 0, 0, 0, 0), 58, 0), ((10, .return_, 1, 0, 0, 0, 0), 1000, 0)]])
def al_mJ1_canEncode_9a6ad : ev_MeK := (al_yJ1_canEncode_9a6ad, prog_30_method_4_code, 1, (some .boolean), [[((0, .iload_n 0, 1, 0, 0, 0, 0), 1, 0), ((1, .ifCond .lt 14, 3, 15, 0, 0, 0), 40, 0), ((4, .iload_n 0, 1, 0, 0, 0, 0), 1, 0), ((5, .sipush 255, 3, 255, 0, 0, 0), 14, 0), ((8, .if_icmp .gt 7, 3, 15, 0, 0, 0), 48, 0), ((11, .iconst 1, 1, 1, 0, 0, 0), 12, 0), ((12, .goto 4, 3, 16, 0, 0, 0), 37, 0), ((15, .iconst 0, 1, 0, 0, 0, 0), 12, 0)],
  [((16, .ireturn, 1, 0, 0, 0, 0), 1000, 0)]])
def al_mJ1_indexOf_4cfef : ev_MeK := (al_yJ1_indexOf_4cfef, prog_30_method_22_code, 4, (some .int), [[((0, .iload_n 1, 1, 0, 0, 0, 0), 1, 1), ((1, .invokestatic 88, 3, 99, 1, 0, 587), 57, 0), ((4, .ifCond .ne 5, 3, 9, 0, 0, 0), 39, 0), ((7, .iconst (-1), 1, 4294967295, 0, 0, 0), 12, 0), ((8, .ireturn, 1, 0, 0, 0, 0), 1000, 0), ((9, .iload_n 2, 1, 0, 0, 0, 0), 1, 2), ((10, .iconst 0, 1, 0, 0, 0, 0), 12, 0), ((11, .invokestatic 92, 3, 997, 0, 0, 588), 59, 0), ((14, .istore_n 2, 1, 0, 0, 0, 0), 7, 2), ((15, .iload_n 3, 1, 0, 0, 0, 0), 1, 3)],
  [((16, .aload_n 0, 1, 0, 0, 0, 0), 59, 0), ((17, .arraylength, 1, 0, 0, 0, 0), 59, 0), ((18, .invokestatic 38, 3, 998, 0, 0, 592), 59, 0), ((21, .istore_n 3, 1, 0, 0, 0, 0), 7, 3), ((22, .iload_n 2, 1, 0, 0, 0, 0), 1, 2), ((23, .iload_n 3, 1, 0, 0, 0, 0), 1, 3), ((24, .if_icmp .lt 5, 3, 29, 0, 0, 0), 46, 0), ((27, .iconst (-1), 1, 4294967295, 0, 0, 0), 12, 0), ((28, .ireturn, 1, 0, 0, 0, 0), 1000, 0), ((29, .aload_n 0, 1, 0, 0, 0, 0), 59, 0), ((30, .iload_n 1, 1, 0, 0, 0, 0), 1, 1), ((31, .iload_n 2, 1, 0, 0, 0, 0), 1, 2)],
  [((32, .iload_n 3, 1, 0, 0, 0, 0), 1, 3), ((33, .invokestatic 95, 3, 101, 4, 0, 596), 57, 0), ((36, .ireturn, 1, 0, 0, 0, 0), 1000, 0)]])
def al_mJ1_indexOfChar_4cfef : ev_MeK := (al_yJ1_indexOfChar_4cfef, prog_30_method_23_code, 6, (some .int), [[((0, .iload_n 1, 1, 0, 0, 0, 0), 1, 1), ((1, .i2b, 1, 0, 0, 0, 0), 24, 0), ((2, .istore 4, 2, 0, 0, 0, 0), 6, 4), ((4, .iload_n 2, 1, 0, 0, 0, 0), 1, 2), ((5, .istore 5, 2, 0, 0, 0, 0), 6, 5), ((7, .iload 5, 2, 0, 0, 0, 0), 0, 5), ((9, .iload_n 3, 1, 0, 0, 0, 0), 1, 3), ((10, .if_icmp .ge 21, 3, 31, 0, 0, 0), 47, 0), ((13, .aload_n 0, 1, 0, 0, 0, 0), 59, 0), ((14, .iload 5, 2, 0, 0, 0, 0), 0, 5)],
  [((16, .baload, 1, 0, 0, 0, 0), 59, 0), ((17, .iload 4, 2, 0, 0, 0, 0), 0, 4), ((19, .if_icmp .ne 6, 3, 25, 0, 0, 0), 45, 0), ((22, .iload 5, 2, 0, 0, 0, 0), 0, 5), ((24, .ireturn, 1, 0, 0, 0, 0), 1000, 0), ((25, .iinc 5 1, 3, 1, 0, 0, 0), 36, 5), ((28, .goto (-21), 3, 7, 0, 0, 0), 37, 0), ((31, .iconst (-1), 1, 4294967295, 0, 0, 0), 12, 0)],
  [((32, .ireturn, 1, 0, 0, 0, 0), 1000, 0)]])
def al_mJ1_newString_b4f7a : ev_MeK := (al_yJ1_newString_b4f7a, prog_30_method_47_code, 3, (some (.object "java/lang/String")), [[((0, .iload_n 2, 1, 0, 0, 0, 0), 1, 2), ((1, .ifCond .ne 6, 3, 7, 0, 0, 0), 39, 0), ((6, .areturn, 1, 0, 0, 0, 0), 1000, 0), ((7, .new 1, 3, 2, 4, 1, 597), 59, 0), ((10, .dup, 1, 0, 0, 0, 0), 35, 0), ((11, .aload_n 0, 1, 0, 0, 0, 0), 59, 0), ((12, .iload_n 1, 1, 0, 0, 0, 0), 1, 1), ((13, .iload_n 1, 1, 0, 0, 0, 0), 1, 1), ((14, .iload_n 2, 1, 0, 0, 0, 0), 1, 2), ((15, .iadd, 1, 0, 0, 0, 0), 16, 0)],
  [((16, .invokestatic 232, 3, 107, 3, 0, 600), 57, 0), ((19, .iconst 0, 1, 0, 0, 0, 0), 12, 0), ((20, .invokespecial 112, 3, 97, 3, 0, 601), 58, 0), ((23, .areturn, 1, 0, 0, 0, 0), 1000, 0)]])
def al_mJ3_checkFromToIndex_8c36e : ev_MeK := (al_yJ3_checkFromToIndex_8c36e, prog_36_method_12_code, 4, (some .int), [[((0, .iload_n 0, 1, 0, 0, 0, 0), 1, 0), ((1, .ifCond .lt 13, 3, 14, 0, 0, 0), 40, 0), ((4, .iload_n 0, 1, 0, 0, 0, 0), 1, 0), ((5, .iload_n 1, 1, 0, 0, 0, 0), 1, 1), ((6, .if_icmp .gt 8, 3, 14, 0, 0, 0), 48, 0), ((9, .iload_n 1, 1, 0, 0, 0, 0), 1, 1), ((10, .iload_n 2, 1, 0, 0, 0, 0), 1, 2), ((11, .if_icmp .le 11, 3, 22, 0, 0, 0), 49, 0), ((14, .aload_n 3, 1, 0, 0, 0, 0), 59, 3), ((15, .iload_n 0, 1, 0, 0, 0, 0), 1, 0)],
  [((16, .iload_n 1, 1, 0, 0, 0, 0), 1, 1), ((17, .iload_n 2, 1, 0, 0, 0, 0), 1, 2), ((22, .iload_n 0, 1, 0, 0, 0, 0), 1, 0), ((23, .ireturn, 1, 0, 0, 0, 0), 1000, 0)]])
def al_mJ7_fill_53178 : ev_MeK := (al_yJ7_fill_53178, prog_34_method_103_code, 4, none, [[((0, .iconst 0, 1, 0, 0, 0, 0), 12, 0), ((1, .istore_n 2, 1, 0, 0, 0, 0), 7, 2), ((2, .aload_n 0, 1, 0, 0, 0, 0), 59, 0), ((3, .arraylength, 1, 0, 0, 0, 0), 59, 0), ((4, .istore_n 3, 1, 0, 0, 0, 0), 7, 3), ((5, .iload_n 2, 1, 0, 0, 0, 0), 1, 2), ((6, .iload_n 3, 1, 0, 0, 0, 0), 1, 3), ((7, .if_icmp .ge 13, 3, 20, 0, 0, 0), 47, 0), ((10, .aload_n 0, 1, 0, 0, 0, 0), 59, 0), ((11, .iload_n 2, 1, 0, 0, 0, 0), 1, 2), ((12, .iload_n 1, 1, 0, 0, 0, 0), 1, 1), ((13, .iastore, 1, 0, 0, 0, 0), 53, 0), ((14, .iinc 2 1, 3, 1, 0, 0, 0), 36, 2)],
  [((17, .goto (-12), 3, 5, 0, 0, 0), 37, 0), ((20, .return_, 1, 0, 0, 0, 0), 1000, 0)]])
def al_mJ7_fill_031fb : ev_MeK := (al_yJ7_fill_031fb, prog_34_method_109_code, 4, none, [[((0, .iconst 0, 1, 0, 0, 0, 0), 12, 0), ((1, .istore_n 2, 1, 0, 0, 0, 0), 7, 2), ((2, .aload_n 0, 1, 0, 0, 0, 0), 59, 0), ((3, .arraylength, 1, 0, 0, 0, 0), 59, 0), ((4, .istore_n 3, 1, 0, 0, 0, 0), 7, 3), ((5, .iload_n 2, 1, 0, 0, 0, 0), 1, 2), ((6, .iload_n 3, 1, 0, 0, 0, 0), 1, 3), ((7, .if_icmp .ge 13, 3, 20, 0, 0, 0), 47, 0), ((10, .aload_n 0, 1, 0, 0, 0, 0), 59, 0), ((11, .iload_n 2, 1, 0, 0, 0, 0), 1, 2), ((12, .iload_n 1, 1, 0, 0, 0, 0), 1, 1), ((13, .bastore, 1, 0, 0, 0, 0), 55, 0), ((14, .iinc 2 1, 3, 1, 0, 0, 0), 36, 2)],
  [((17, .goto (-12), 3, 5, 0, 0, 0), 37, 0), ((20, .return_, 1, 0, 0, 0, 0), 1000, 0)]])
def al_mJ7_checkLength_df160 : ev_MeK := (al_yJ7_checkLength_df160, prog_34_method_131_code, 2, none, [[((0, .iload_n 1, 1, 0, 0, 0, 0), 1, 1), ((1, .iload_n 0, 1, 0, 0, 0, 0), 1, 0), ((2, .if_icmp .ge 35, 3, 37, 0, 0, 0), 47, 0), ((8, .dup, 1, 0, 0, 0, 0), 35, 0), ((12, .dup, 1, 0, 0, 0, 0), 35, 0)],
  [((16, .iload_n 0, 1, 0, 0, 0, 0), 1, 0), ((26, .iload_n 1, 1, 0, 0, 0, 0), 1, 1)],
  [((37, .return_, 1, 0, 0, 0, 0), 1000, 0)]])
def al_mJ7_copyOfRange_39247 : ev_MeK := (al_yJ7_copyOfRange_39247, prog_34_method_132_code, 3, (some (.array .byte)), [[((0, .iload_n 1, 1, 0, 0, 0, 0), 1, 1), ((1, .ifCond .ne 9, 3, 10, 0, 0, 0), 39, 0), ((4, .iload_n 2, 1, 0, 0, 0, 0), 1, 2), ((5, .aload_n 0, 1, 0, 0, 0, 0), 59, 0), ((6, .arraylength, 1, 0, 0, 0, 0), 59, 0), ((7, .if_icmp .eq 10, 3, 17, 0, 0, 0), 44, 0), ((10, .aload_n 0, 1, 0, 0, 0, 0), 59, 0), ((11, .iload_n 1, 1, 0, 0, 0, 0), 1, 1), ((12, .iload_n 2, 1, 0, 0, 0, 0), 1, 2), ((13, .invokestatic 339, 3, 108, 3, 0, 602), 57, 0)],
  [((16, .areturn, 1, 0, 0, 0, 0), 1000, 0), ((17, .aload_n 0, 1, 0, 0, 0, 0), 59, 0), ((24, .areturn, 1, 0, 0, 0, 0), 1000, 0)]])
def al_mJ7_copyOfRangeByte_39247 : ev_MeK := (al_yJ7_copyOfRangeByte_39247, prog_34_method_133_code, 5, (some (.array .byte)), [[((0, .iload_n 1, 1, 0, 0, 0, 0), 1, 1), ((1, .iload_n 2, 1, 0, 0, 0, 0), 1, 2), ((2, .invokestatic 343, 3, 106, 2, 0, 603), 57, 0), ((5, .iload_n 2, 1, 0, 0, 0, 0), 1, 2), ((6, .iload_n 1, 1, 0, 0, 0, 0), 1, 1), ((7, .isub, 1, 0, 0, 0, 0), 17, 0), ((8, .istore_n 3, 1, 0, 0, 0, 0), 7, 3), ((9, .iload_n 3, 1, 0, 0, 0, 0), 1, 3), ((10, .newarray .byte, 2, 1, 0, 0, 43), 58, 0), ((12, .astore 4, 2, 0, 0, 0, 0), 10, 4), ((14, .aload_n 0, 1, 0, 0, 0, 0), 59, 0), ((15, .iload_n 1, 1, 0, 0, 0, 0), 1, 1)],
  [((16, .aload 4, 2, 0, 0, 0, 0), 59, 4), ((18, .iconst 0, 1, 0, 0, 0, 0), 12, 0), ((19, .aload_n 0, 1, 0, 0, 0, 0), 59, 0), ((20, .arraylength, 1, 0, 0, 0, 0), 59, 0), ((21, .iload_n 1, 1, 0, 0, 0, 0), 1, 1), ((22, .isub, 1, 0, 0, 0, 0), 17, 0), ((23, .iload_n 3, 1, 0, 0, 0, 0), 1, 3), ((24, .invokestatic 304, 3, 998, 0, 0, 604), 59, 0), ((27, .invokestatic 150, 3, 999, 0, 0, 608), 59, 0), ((30, .aload 4, 2, 0, 0, 0, 0), 59, 4)],
  [((32, .areturn, 1, 0, 0, 0, 0), 1000, 0)]])
def al_mkK : List (ev_MeK × Nat) := [(al_mX8_put, 0), (al_mJ0_charAt_5068e, 0), (al_mJ0_isLatin1_aae02, 0), (al_mJ1_charAt_3b067, 1), (al_mJ0_checkIndex_df160, 1), (al_mJ3_checkIndex_8e157, 1), (al_mJ0_length_8abf5, 0), (al_mJ0_coder_7d493, 0), (al_mX8_find, 0), (al_mX8_add, 0), (al_mX8_begin, 0), (al_mX8_keepLatent, 0), (al_mX8_keepFixed, 0), (al_mX8_putWords, 0), (al_mX1_latent, 0), (al_mX1_fixed, 0), (al_mX12_init, 2), (al_mX12_internBuilt, 0), (al_mX12_internTypes, 0), (al_mX12_internNames, 0), (al_mX12_hidden, 0), (al_mX12_word, 0), (al_mX12_intern, 0), (al_mX12_hashOf, 0), (al_mX12_compile, 0), (al_mX12_forgetFrom, 0), (al_mX12_readTokens, 0), (al_mX12_skip, 0), (al_mX12_at, 0), (al_mX12_readText, 0), (al_mX12_emit, 0), (al_mX12_later, 0), (al_mX12_goOn, 0), (al_mX12_readBlock, 0), (al_mX12_isWord, 0), (al_mX12_beginsStatement, 0), (al_mX12_isSign, 0), (al_mX12_goOnStatement, 0), (al_mX12_reload, 0), (al_mX12_fill, 0), (al_mX12_set, 0), (al_mX12_placeOf, 0), (al_mX12_keyHash, 1), (al_mX12_object, 0), (al_mX12_how, 0), (al_mX12_openFrame, 0), (al_mX12_forget, 0), (al_mX11_init, 2), (al_mX11_compile, 0), (al_mX11_forget, 0), (al_mX8_init, 2), (al_mX8_keepNames, 0), (al_mX8_dropText, 0), (al_mX8_dropMade, 0), (al_mX8_cutTo, 0), (al_mX6_init, 2), (al_mX6_clear, 0), (al_mX6_addFunction, 0), (al_mX6_emit, 0), (al_mX9_init, 2), (al_mX9_clear, 0), (al_mX9_open, 0), (al_mX9_find, 0), (al_mX9_put, 0), (al_mX9_add, 0), (al_mX3_init, 2), (al_mX3_clear, 0), (al_mX3_make, 0), (al_mX5_init, 2), (al_mX5_open, 0), (al_mX5_enter, 0), (al_mX10_init, 2), (al_mX10_open, 0), (al_mX10_begin, 0), (al_mX10_behindBlanks, 0), (al_mX4_init, 2), (al_mX4_judge, 0), (al_mX4_next, 0), (al_mX4_emit, 0), (al_mX4_startsStatement, 0), (al_mX4_block, 0), (al_mX7_init, 2), (al_mX7_clear, 0), (al_mX7_enter, 0), (al_mX7_height, 0), (al_mX0_init, 2), (al_mX0_clear, 0), (al_mX2_init, 2), (al_mX2_reset, 0), (al_mX1_init, 2), (al_mX1_keepNames, 0), (al_mX1_furnish, 0), (al_mX1_newTable, 0), (al_mJ0_indexOf_0f7a4, 0), (al_mJ0_indexOf_7cf53, 0), (al_mJ0_substring_b52d3, 0), (al_mJ0_substring_37a41, 0), (al_mJ0_init_031fb, 2), (al_mJ0_checkBoundsBeginEnd_23922, 1), (al_mJ1_canEncode_9a6ad, 1), (al_mJ1_indexOf_4cfef, 1), (al_mJ1_indexOfChar_4cfef, 1), (al_mJ1_newString_b4f7a, 1), (al_mJ3_checkFromToIndex_8c36e, 1), (al_mJ7_fill_53178, 1), (al_mJ7_fill_031fb, 1), (al_mJ7_checkLength_df160, 1), (al_mJ7_copyOfRange_39247, 1), (al_mJ7_copyOfRangeByte_39247, 1)]
def al_mtK : List ev_MeK := al_mkK.map Prod.fst
def al_mk : List ev_Mk := al_mkK.map (fun m => (ev_unM m.1, m.2))
def al_more : List Jvm.Cond := [.fieldLink al_RX8 63 "TableTongue$Strings" "rowLength" "I",
  .fieldLink al_RX8 35 "TableTongue$Strings" "row" "[B",
  .methodLink al_RJ0 492 al_yJ0_isLatin1_aae02,
  .fieldLink al_RJ0 9 "java/lang/String" "value" "[B",
  .methodLink al_RJ0 495 al_yJ1_charAt_3b067,
  .fieldLink al_RJ0 38 "java/lang/String" "COMPACT_STRINGS" "Z",
  .fieldLink al_RJ0 15 "java/lang/String" "coder" "B",
  .methodLink al_RJ1 9 al_yJ0_checkIndex_df160,
  .fieldLink al_RJ0 1053 "jdk/internal/util/Preconditions" "SIOOBE_FORMATTER" "Ljava/util/function/BiFunction;",
  .methodLink al_RJ0 1059 al_yJ3_checkIndex_8e157,
  .methodLink al_RJ0 335 al_yJ0_coder_7d493,
  .fieldLink al_RX8 126 "TableTongue$Strings" "rowHead" "I",
  .fieldLink al_RX8 26 "TableTongue$Strings" "heads" "[I",
  .fieldLink al_RX8 20 "TableTongue$Strings" "lengths" "[I",
  .fieldLink al_RX8 10 "TableTongue$Strings" "pool" "[B",
  .fieldLink al_RX8 16 "TableTongue$Strings" "starts" "[I",
  .fieldLink al_RX8 23 "TableTongue$Strings" "chain" "[I",
  .fieldLink al_RX8 105 "TableTongue$Strings" "known" "I",
  .fieldLink al_RX8 123 "TableTongue$Strings" "used" "I",
  .methodLink al_RX8 83 arraycopyName,
  .native arraycopyName,
  .static arraycopyName,
  .initialized "java/lang/System",
  .fieldLink al_RX8 29 "TableTongue$Strings" "headOf" "[I",
  .methodLink al_RX8 99 al_yX8_find,
  .methodLink al_RX8 102 al_yX8_add,
  .fieldLink al_RX8 32 "TableTongue$Strings" "states" "[B",
  .fieldLink al_RX8 108 "TableTongue$Strings" "fixed" "I",
  .fieldLink al_RX8 111 "TableTongue$Strings" "textual" "I",
  .methodLink al_RX8 50 al_yJ0_length_8abf5,
  .methodLink al_RX8 56 al_yJ0_charAt_5068e,
  .methodLink al_RX8 67 al_yX8_put,
  .fieldLink al_RX1 25 "TableTongue$Library" "strings" "LTableTongue$Strings;",
  .methodLink al_RX1 93 al_yX8_begin,
  .methodLink al_RX1 98 al_yX8_putWords,
  .methodLink al_RX1 102 al_yX8_keepLatent,
  .methodLink al_RX1 105 al_yX8_keepFixed,
  .methodLink al_RX12 1 objectInit,
  .instanceMethod objectInit,
  .code objectInit ⟨#[0xb1]⟩ 1 none,
  .arrayClass .int,
  .fieldLink al_RX12 7 "TableTongueModel" "text" "[I",
  .constant al_RX12 13 (nI 40000),
  .arrayClass .byte,
  .fieldLink al_RX12 14 "TableTongueModel" "pool" "[B",
  .fieldLink al_RX12 18 "TableTongueModel" "nameAt" "[I",
  .fieldLink al_RX12 21 "TableTongueModel" "nameLong" "[I",
  .fieldLink al_RX12 24 "TableTongueModel" "nameSort" "[I",
  .fieldLink al_RX12 27 "TableTongueModel" "nameNext" "[I",
  .fieldLink al_RX12 30 "TableTongueModel" "nameHeads" "[I",
  .fieldLink al_RX12 33 "TableTongueModel" "buffer" "[B",
  .fieldLink al_RX12 36 "TableTongueModel" "tokenKind" "[I",
  .fieldLink al_RX12 39 "TableTongueModel" "tokenAt" "[I",
  .arrayClass .long,
  .fieldLink al_RX12 42 "TableTongueModel" "tokenValue" "[J",
  .fieldLink al_RX12 46 "TableTongueModel" "protoStart" "[I",
  .fieldLink al_RX12 49 "TableTongueModel" "protoParams" "[I",
  .fieldLink al_RX12 52 "TableTongueModel" "protoLocals" "[I",
  .fieldLink al_RX12 55 "TableTongueModel" "protoCaptured" "[I",
  .arrayClass .boolean,
  .fieldLink al_RX12 58 "TableTongueModel" "protoDots" "[Z",
  .fieldLink al_RX12 62 "TableTongueModel" "protoLine" "[I",
  .fieldLink al_RX12 65 "TableTongueModel" "fromLocal" "[Z",
  .fieldLink al_RX12 68 "TableTongueModel" "fromIndex" "[I",
  .fieldLink al_RX12 71 "TableTongueModel" "op" "[I",
  .fieldLink al_RX12 74 "TableTongueModel" "opA" "[I",
  .fieldLink al_RX12 77 "TableTongueModel" "opB" "[I",
  .fieldLink al_RX12 80 "TableTongueModel" "opLine" "[I",
  .fieldLink al_RX12 83 "TableTongueModel" "wholes" "[J",
  .fieldLink al_RX12 86 "TableTongueModel" "waitState" "[I",
  .fieldLink al_RX12 89 "TableTongueModel" "waitA" "[I",
  .fieldLink al_RX12 92 "TableTongueModel" "waitB" "[I",
  .fieldLink al_RX12 95 "TableTongueModel" "waitC" "[I",
  .fieldLink al_RX12 98 "TableTongueModel" "knownName" "[I",
  .fieldLink al_RX12 101 "TableTongueModel" "knownSlot" "[I",
  .fieldLink al_RX12 104 "TableTongueModel" "levelBase" "[I",
  .fieldLink al_RX12 107 "TableTongueModel" "levelProto" "[I",
  .fieldLink al_RX12 110 "TableTongueModel" "loopChain" "[I",
  .fieldLink al_RX12 113 "TableTongueModel" "loopLevel" "[I",
  .fieldLink al_RX12 116 "TableTongueModel" "placeSort" "[I",
  .fieldLink al_RX12 119 "TableTongueModel" "placeArg" "[I",
  .fieldLink al_RX12 122 "TableTongueModel" "placeLine" "[I",
  .fieldLink al_RX12 125 "TableTongueModel" "objKind" "[I",
  .fieldLink al_RX12 128 "TableTongueModel" "meta" "[I",
  .fieldLink al_RX12 131 "TableTongueModel" "firstPlace" "[I",
  .fieldLink al_RX12 134 "TableTongueModel" "lastPlace" "[I",
  .fieldLink al_RX12 137 "TableTongueModel" "markTurn" "[J",
  .fieldLink al_RX12 140 "TableTongueModel" "objData" "[I",
  .constant al_RX12 143 (nI 60060),
  .fieldLink al_RX12 144 "TableTongueModel" "objCells" "[I",
  .fieldLink al_RX12 147 "TableTongueModel" "plKeyKind" "[I",
  .fieldLink al_RX12 150 "TableTongueModel" "plKey" "[J",
  .fieldLink al_RX12 153 "TableTongueModel" "plKind" "[I",
  .fieldLink al_RX12 156 "TableTongueModel" "plValue" "[J",
  .fieldLink al_RX12 159 "TableTongueModel" "plTable" "[I",
  .fieldLink al_RX12 162 "TableTongueModel" "plNext" "[I",
  .fieldLink al_RX12 165 "TableTongueModel" "plChain" "[I",
  .fieldLink al_RX12 168 "TableTongueModel" "heads" "[I",
  .fieldLink al_RX12 171 "TableTongueModel" "freePlaces" "[I",
  .constant al_RX12 174 (nI 95000),
  .fieldLink al_RX12 175 "TableTongueModel" "cellKind" "[I",
  .fieldLink al_RX12 178 "TableTongueModel" "cellNumber" "[J",
  .fieldLink al_RX12 181 "TableTongueModel" "cellMarked" "[Z",
  .fieldLink al_RX12 184 "TableTongueModel" "freeCells" "[I",
  .fieldLink al_RX12 187 "TableTongueModel" "partState" "[I",
  .fieldLink al_RX12 190 "TableTongueModel" "partObject" "[I",
  .fieldLink al_RX12 193 "TableTongueModel" "partKind" "[I",
  .fieldLink al_RX12 196 "TableTongueModel" "partNumber" "[J",
  .fieldLink al_RX12 199 "TableTongueModel" "frameMany" "[I",
  .fieldLink al_RX12 202 "TableTongueModel" "heights" "[I",
  .fieldLink al_RX12 205 "TableTongueModel" "markMany" "[I",
  .fieldLink al_RX12 208 "TableTongueModel" "depths" "[I",
  .fieldLink al_RX12 211 "TableTongueModel" "resumer" "[I",
  .fieldLink al_RX12 214 "TableTongueModel" "goMode" "[I",
  .fieldLink al_RX12 217 "TableTongueModel" "goWant" "[I",
  .fieldLink al_RX12 220 "TableTongueModel" "stopMode" "[I",
  .fieldLink al_RX12 223 "TableTongueModel" "stopWant" "[I",
  .constant al_RX12 226 (nI 260000),
  .fieldLink al_RX12 227 "TableTongueModel" "vKind" "[I",
  .fieldLink al_RX12 230 "TableTongueModel" "vNumber" "[J",
  .constant al_RX12 233 (nI 52000),
  .fieldLink al_RX12 234 "TableTongueModel" "marks" "[I",
  .fieldLink al_RX12 237 "TableTongueModel" "fType" "[I",
  .fieldLink al_RX12 240 "TableTongueModel" "fProto" "[I",
  .fieldLink al_RX12 243 "TableTongueModel" "fFunction" "[I",
  .fieldLink al_RX12 246 "TableTongueModel" "fPc" "[I",
  .fieldLink al_RX12 249 "TableTongueModel" "fMode" "[I",
  .fieldLink al_RX12 252 "TableTongueModel" "fWant" "[I",
  .fieldLink al_RX12 255 "TableTongueModel" "fBase" "[I",
  .fieldLink al_RX12 258 "TableTongueModel" "fMarks" "[I",
  .fieldLink al_RX12 261 "TableTongueModel" "fDots" "[I",
  .fieldLink al_RX12 264 "TableTongueModel" "fLine" "[I",
  .fieldLink al_RX12 267 "TableTongueModel" "fFrom" "[I",
  .fieldLink al_RX12 270 "TableTongueModel" "fTo" "[I",
  .fieldLink al_RX12 273 "TableTongueModel" "fGone" "[I",
  .constant al_RX12 276 (nI 62400),
  .fieldLink al_RX12 277 "TableTongueModel" "fCell" "[I",
  .fieldLink al_RX12 280 "TableTongueModel" "argKind" "[I",
  .fieldLink al_RX12 283 "TableTongueModel" "arg" "[J",
  .fieldLink al_RX12 286 "TableTongueModel" "resKind" "[I",
  .fieldLink al_RX12 289 "TableTongueModel" "res" "[J",
  .fieldLink al_RX12 292 "TableTongueModel" "finalKind" "[I",
  .fieldLink al_RX12 295 "TableTongueModel" "finalNumber" "[J",
  .fieldLink al_RX12 298 "TableTongueModel" "output" "[B",
  .fieldLink al_RX12 301 "TableTongueModel" "acts" "[I",
  .fieldLink al_RX12 304 "TableTongueModel" "reached" "[Z",
  .fieldLink al_RX12 307 "TableTongueModel" "partReached" "[Z",
  .fieldLink al_RX12 310 "TableTongueModel" "queue" "[I",
  .fieldLink al_RX12 313 "TableTongueModel" "byKey" "[I",
  .fieldLink al_RX12 316 "TableTongueModel" "nextKey" "[I",
  .methodLink al_RX12 319 al_yX12_internBuilt,
  .fieldLink al_RX12 322 "TableTongueModel" "nameMany" "I",
  .fieldLink al_RX12 326 "TableTongueModel" "builtMany" "I",
  .fieldLink al_RX12 329 "TableTongueModel" "poolEnd" "I",
  .fieldLink al_RX12 332 "TableTongueModel" "builtPool" "I",
  .constantLong al_RX12 352 (lN 26845029215790456),
  .methodLink al_RX12 354 al_yX12_hidden,
  .constantLong al_RX12 358 (lN 6872332938464816740),
  .constantLong al_RX12 360 (lN 25976),
  .constantLong al_RX12 362 (lN 104863293860972),
  .constantLong al_RX12 364 (lN 409622111332),
  .constantLong al_RX12 366 (lN 409623295330),
  .constantLong al_RX12 368 (lN 409622902124),
  .constantLong al_RX12 370 (lN 104863394720118),
  .constantLong al_RX12 372 (lN 409622900580),
  .constantLong al_RX12 374 (lN 104863277084260),
  .constantLong al_RX12 376 (lN 409622179698),
  .constantLong al_RX12 378 (lN 104863278591858),
  .constantLong al_RX12 380 (lN 409623292012),
  .constantLong al_RX12 382 (lN 409623292018),
  .constantLong al_RX12 384 (lN 409623424621),
  .constantLong al_RX12 386 (lN 104863277936500),
  .constantLong al_RX12 388 (lN 6872320886635192692),
  .constantLong al_RX12 390 (lN 409622832494),
  .constantLong al_RX12 392 (lN 1600087409),
  .constantLong al_RX12 394 (lN 1600089204),
  .constantLong al_RX12 396 (lN 1600089189),
  .constantLong al_RX12 398 (lN 1600087907),
  .constantLong al_RX12 400 (lN 104863462548581),
  .methodLink al_RX12 402 al_yX12_internTypes,
  .methodLink al_RX12 405 al_yX12_internNames,
  .constantLong al_RX12 408 (lN 7235948),
  .constantLong al_RX12 410 (lN 27707072068280686),
  .constantLong al_RX12 412 (lN 121450625394034),
  .constantLong al_RX12 414 (lN 126943972912743),
  .constantLong al_RX12 416 (lN 499850046565),
  .constantLong al_RX12 418 (lN 7382928537577680750),
  .constantLong al_RX12 420 (lN 127991944667492),
  .constantLong al_RX12 422 (lN 7234935),
  .constantLong al_RX12 424 (lN 32497644298331492),
  .constantLong al_RX12 426 (lN 32217264504270439),
  .constantLong al_RX12 428 (lN 121424940196204),
  .constantLong al_RX12 430 (lN 1684365668),
  .constantLong al_RX12 432 (lN 7094703752064557426),
  .constantLong al_RX12 434 (lN 116),
  .constantLong al_RX12 436 (lN 7234295459109429618),
  .constantLong al_RX12 438 (lN 110),
  .constantLong al_RX12 440 (lN 482955849332),
  .constantLong al_RX12 442 (lN 1954115685),
  .constantLong al_RX12 444 (lN 8390051574787436135),
  .constantLong al_RX12 446 (lN 8390046081439917426),
  .constantLong al_RX12 448 (lN 1852143732),
  .constantLong al_RX12 450 (lN 482670637683),
  .constantLong al_RX12 452 (lN 115931391554163),
  .constantLong al_RX12 454 (lN 125762940659060),
  .constantLong al_RX12 456 (lN 125762941445492),
  .constantLong al_RX12 458 (lN 8242000070643638636),
  .constantLong al_RX12 460 (lN 125762940986734),
  .constantLong al_RX12 462 (lN 7450489171756736884),
  .constantLong al_RX12 464 (lN 1633840229),
  .constantLong al_RX12 466 (lN 8315180300211872116),
  .constantLong al_RX12 468 (lN 435711799154),
  .constantLong al_RX12 470 (lN 482703666284),
  .constantLong al_RX12 472 (lN 126879447475060),
  .constantLong al_RX12 474 (lN 27988534160089972),
  .constantLong al_RX12 476 (lN 1818850164),
  .constantLong al_RX12 478 (lN 1952807028),
  .constantLong al_RX12 480 (lN 1885434484),
  .constantLong al_RX12 482 (lN 115923103347316),
  .constantLong al_RX12 484 (lN 125779953284709),
  .constantLong al_RX12 486 (lN 109330244526452),
  .constantLong al_RX12 488 (lN 1885430635),
  .constantLong al_RX12 490 (lN 129117192282987),
  .constantLong al_RX12 492 (lN 7566690),
  .constantLong al_RX12 494 (lN 1652126821),
  .constantLong al_RX12 496 (lN 1667785074),
  .constantLong al_RX12 498 (lN 7497072),
  .constantLong al_RX12 500 (lN 26479),
  .constantLong al_RX12 502 (lN 1937010544),
  .constantLong al_RX12 504 (lN 495873782885),
  .fieldLink al_RX12 338 "TableTongueModel" "built" "I",
  .methodLink al_RX12 345 al_yX12_word,
  .methodLink al_RX12 349 al_yX12_intern,
  .methodLink al_RX12 341 al_yX12_hashOf,
  .fieldLink al_RX12 335 "TableTongueModel" "thrown" "I",
  .fieldLink al_RX12 509 "TableTongueModel" "compiled" "Z",
  .methodLink al_RX12 910 al_yX12_forgetFrom,
  .fieldLink al_RX12 618 "TableTongueModel" "faultCode" "I",
  .methodLink al_RX12 913 al_yX12_readTokens,
  .methodLink al_RX12 916 al_yX12_readText,
  .fieldLink al_RX12 621 "TableTongueModel" "faultAt" "I",
  .fieldLink al_RX12 919 "TableTongueModel" "faultLine" "I",
  .fieldLink al_RX12 922 "TableTongueModel" "baseMany" "I",
  .fieldLink al_RX12 925 "TableTongueModel" "basePool" "I",
  .methodLink al_RX12 928 al_yX12_reload,
  .fieldLink al_RX12 784 "TableTongueModel" "protos" "I",
  .fieldLink al_RX12 599 "TableTongueModel" "tokenMany" "I",
  .methodLink al_RX12 602 al_yX12_skip,
  .methodLink al_RX12 517 al_yX12_at,
  .fieldLink al_RX12 572 "TableTongueModel" "readKind" "I",
  .fieldLink al_RX12 575 "TableTongueModel" "readValue" "J",
  .fieldLink al_RX12 565 "TableTongueModel" "readEnd" "I",
  .fieldLink al_RX12 506 "TableTongueModel" "size" "I",
  .fieldLink al_RX12 624 "TableTongueModel" "ti" "I",
  .fieldLink al_RX12 654 "TableTongueModel" "waits" "I",
  .fieldLink al_RX12 657 "TableTongueModel" "nest" "I",
  .fieldLink al_RX12 666 "TableTongueModel" "known" "I",
  .fieldLink al_RX12 660 "TableTongueModel" "level" "I",
  .fieldLink al_RX12 726 "TableTongueModel" "loops" "I",
  .fieldLink al_RX12 705 "TableTongueModel" "placeMany" "I",
  .fieldLink al_RX12 651 "TableTongueModel" "words" "I",
  .fieldLink al_RX12 758 "TableTongueModel" "wholeMany" "I",
  .methodLink al_RX12 682 al_yX12_emit,
  .methodLink al_RX12 686 al_yX12_later,
  .methodLink al_RX12 907 al_yX12_goOn,
  .methodLink al_RX12 808 al_yX12_readBlock,
  .methodLink al_RX12 859 al_yX12_goOnStatement,
  .methodLink al_RX12 645 al_yX12_isWord,
  .methodLink al_RX12 696 al_yX12_beginsStatement,
  .methodLink al_RX12 635 al_yX12_isSign,
  .methodLink al_RX12 1489 al_yX12_forget,
  .methodLink al_RX12 1492 al_yX12_fill,
  .methodLink al_RX12 1223 al_yX12_object,
  .fieldLink al_RX12 1078 "TableTongueModel" "cur" "I",
  .fieldLink al_RX12 1090 "TableTongueModel" "args" "I",
  .methodLink al_RX12 1114 al_yX12_how,
  .methodLink al_RX12 1131 al_yX12_openFrame,
  .fieldLink al_RX12 1024 "TableTongueModel" "todo" "I",
  .methodLink al_RX12 1124 al_yX12_set,
  .methodLink al_RX12 1046 al_yX12_placeOf,
  .fieldLink al_RX12 1055 "TableTongueModel" "placesMany" "I",
  .fieldLink al_RX12 937 "TableTongueModel" "over" "I",
  .fieldLink al_RX12 1058 "TableTongueModel" "freeMany" "I",
  .methodLink al_RX12 1042 al_yX12_keyHash,
  .constantLong al_RX12 1036 (lN 31),
  .constantLong al_RX12 1038 (lN 7),
  .constantLong al_RX12 1040 (lN 131),
  .fieldLink al_RX12 1065 "TableTongueModel" "made" "I",
  .fieldLink al_RX12 1093 "TableTongueModel" "mode" "I",
  .fieldLink al_RX12 1096 "TableTongueModel" "want" "I",
  .fieldLink al_RX12 1033 "TableTongueModel" "line" "I",
  .fieldLink al_RX12 931 "TableTongueModel" "madeStrings" "I",
  .fieldLink al_RX12 934 "TableTongueModel" "madeBytes" "I",
  .fieldLink al_RX12 1071 "TableTongueModel" "freeCellMany" "I",
  .constant al_RX12 1077 (nI 94999),
  .fieldLink al_RX12 1342 "TableTongueModel" "turns" "J",
  .fieldLink al_RX12 1068 "TableTongueModel" "partMany" "I",
  .fieldLink al_RX12 1468 "TableTongueModel" "actsTop" "I",
  .fieldLink al_RX12 1486 "TableTongueModel" "actsCalled" "I",
  .fieldLink al_RX12 1324 "TableTongueModel" "outMany" "I",
  .fieldLink al_RX12 1233 "TableTongueModel" "steps" "J",
  .fieldLink al_RX12 1167 "TableTongueModel" "finalMany" "I",
  .methodLink al_RX11 1 objectInit,
  .instanceMethod objectInit,
  .code objectInit ⟨#[0xb1]⟩ 1 none,
  .fieldLink al_RX11 9 "TableTongue" "text" "[B",
  .classLink al_RX11 13 "TableTongue$Strings",
  .instantiable "TableTongue$Strings" 16,
  .initialized "TableTongue$Strings",
  .methodLink al_RX11 15 al_yX8_init,
  .fieldLink al_RX11 16 "TableTongue" "strings" "LTableTongue$Strings;",
  .classLink al_RX11 20 "TableTongue$Program",
  .instantiable "TableTongue$Program" 15,
  .initialized "TableTongue$Program",
  .methodLinkNest al_RX11 22 al_yX6_init "TableTongue",
  .fieldLink al_RX11 23 "TableTongue" "program" "LTableTongue$Program;",
  .classLink al_RX11 27 "TableTongue$Tables",
  .instantiable "TableTongue$Tables" 17,
  .initialized "TableTongue$Tables",
  .methodLinkNest al_RX11 29 al_yX9_init "TableTongue",
  .fieldLink al_RX11 30 "TableTongue" "tables" "LTableTongue$Tables;",
  .classLink al_RX11 34 "TableTongue$Objects",
  .instantiable "TableTongue$Objects" 12,
  .initialized "TableTongue$Objects",
  .methodLink al_RX11 36 al_yX3_init,
  .fieldLink al_RX11 37 "TableTongue" "objects" "LTableTongue$Objects;",
  .fieldLink al_RX11 41 "TableTongue" "faultPlace" "I",
  .fieldLink al_RX11 45 "TableTongue" "faultLine" "I",
  .classLink al_RX11 48 "TableTongue$Parser",
  .instantiable "TableTongue$Parser" 13,
  .initialized "TableTongue$Parser",
  .classLink al_RX11 50 "TableTongue$Tokens",
  .instantiable "TableTongue$Tokens" 9,
  .initialized "TableTongue$Tokens",
  .methodLink al_RX11 52 al_yX10_init,
  .methodLink al_RX11 55 al_yX4_init,
  .fieldLink al_RX11 58 "TableTongue" "parser" "LTableTongue$Parser;",
  .classLink al_RX11 62 "TableTongue$Gathering",
  .instantiable "TableTongue$Gathering" 15,
  .initialized "TableTongue$Gathering",
  .methodLink al_RX11 64 al_yX0_init,
  .fieldLink al_RX11 67 "TableTongue" "gathering" "LTableTongue$Gathering;",
  .classLink al_RX11 71 "TableTongue$Machine",
  .instantiable "TableTongue$Machine" 19,
  .initialized "TableTongue$Machine",
  .methodLink al_RX11 73 al_yX2_init,
  .fieldLink al_RX11 76 "TableTongue" "machine" "LTableTongue$Machine;",
  .methodLink al_RX11 86 al_yX11_forget,
  .fieldLink al_RX11 80 "TableTongue" "size" "I",
  .methodLink al_RX11 89 al_yX4_judge,
  .fieldLinkNest al_RX11 93 "TableTongue$Parser" "refusedPlace" "I" "TableTongue",
  .fieldLinkNest al_RX11 96 "TableTongue$Parser" "refusedLine" "I" "TableTongue",
  .fieldLink al_RX11 99 "TableTongue" "compiled" "Z",
  .methodLink al_RX11 103 al_yX2_reset,
  .fieldLinkNest al_RX11 106 "TableTongue$Program" "functions" "I" "TableTongue",
  .methodLink al_RX8 3 objectInit,
  .instanceMethod objectInit,
  .code objectInit ⟨#[0xb1]⟩ 1 none,
  .constant al_RX8 9 (nI 32768),
  .methodLink al_RX8 40 al_yX8_keepNames,
  .methodLink al_RX8 60 al_yX8_keepLatent,
  .methodLink al_RX8 120 al_yX8_cutTo,
  .fieldLink al_RX8 114 "TableTongue$Strings" "made" "I",
  .fieldLink al_RX8 117 "TableTongue$Strings" "madeBytes" "I",
  .methodLink al_RX8 75 Lib.Math.min.name,
  .static Lib.Math.min.name,
  .initialized "java/lang/Math",
  .code Lib.Math.min.name Lib.Math.min.code 2 (some .int),
  .methodLink al_RX6 1 objectInit,
  .instanceMethod objectInit,
  .code objectInit ⟨#[0xb1]⟩ 1 none,
  .fieldLink al_RX6 9 "TableTongue$Program" "ops" "[I",
  .fieldLink al_RX6 13 "TableTongue$Program" "as" "[I",
  .fieldLink al_RX6 16 "TableTongue$Program" "bs" "[I",
  .fieldLink al_RX6 19 "TableTongue$Program" "lines" "[I",
  .fieldLink al_RX6 22 "TableTongue$Program" "wholes" "[J",
  .fieldLink al_RX6 26 "TableTongue$Program" "entries" "[I",
  .fieldLink al_RX6 29 "TableTongue$Program" "params" "[I",
  .fieldLink al_RX6 32 "TableTongue$Program" "locals" "[I",
  .fieldLink al_RX6 35 "TableTongue$Program" "captures" "[I",
  .fieldLink al_RX6 38 "TableTongue$Program" "bodyLine" "[I",
  .fieldLink al_RX6 41 "TableTongue$Program" "dots" "[Z",
  .fieldLink al_RX6 45 "TableTongue$Program" "sources" "[I",
  .fieldLink al_RX6 48 "TableTongue$Program" "size" "I",
  .fieldLink al_RX6 52 "TableTongue$Program" "wholeCount" "I",
  .fieldLink al_RX6 55 "TableTongue$Program" "functions" "I",
  .methodLink al_RX9 3 objectInit,
  .instanceMethod objectInit,
  .code objectInit ⟨#[0xb1]⟩ 1 none,
  .fieldLink al_RX9 11 "TableTongue$Tables" "first" "[I",
  .fieldLink al_RX9 17 "TableTongue$Tables" "last" "[I",
  .fieldLink al_RX9 20 "TableTongue$Tables" "length" "[I",
  .fieldLink al_RX9 23 "TableTongue$Tables" "metas" "[I",
  .fieldLink al_RX9 26 "TableTongue$Tables" "keyKinds" "[B",
  .fieldLink al_RX9 30 "TableTongue$Tables" "valueKinds" "[B",
  .fieldLink al_RX9 33 "TableTongue$Tables" "keys" "[J",
  .fieldLink al_RX9 37 "TableTongue$Tables" "values" "[J",
  .fieldLink al_RX9 40 "TableTongue$Tables" "owners" "[I",
  .fieldLink al_RX9 43 "TableTongue$Tables" "after" "[I",
  .fieldLink al_RX9 46 "TableTongue$Tables" "chain" "[I",
  .fieldLink al_RX9 49 "TableTongue$Tables" "heads" "[I",
  .fieldLink al_RX9 52 "TableTongue$Tables" "headOf" "[I",
  .methodLink al_RX9 55 al_yJ7_fill_53178,
  .fieldLink al_RX9 61 "TableTongue$Tables" "free" "I",
  .fieldLink al_RX9 65 "TableTongue$Tables" "used" "I",
  .fieldLink al_RX9 68 "TableTongue$Tables" "placed" "I",
  .methodLink al_RX9 71 al_yX9_open,
  .fieldLink al_RX9 75 "TableTongue$Tables" "keyHead" "I",
  .methodLink al_RX9 78 al_yX9_find,
  .methodLink al_RX9 82 al_yX9_add,
  .methodLink al_RX3 3 objectInit,
  .instanceMethod objectInit,
  .code objectInit ⟨#[0xb1]⟩ 1 none,
  .fieldLink al_RX3 11 "TableTongue$Objects" "kinds" "[B",
  .fieldLink al_RX3 15 "TableTongue$Objects" "details" "[I",
  .fieldLink al_RX3 19 "TableTongue$Objects" "firstCells" "[I",
  .fieldLink al_RX3 22 "TableTongue$Objects" "cells" "[I",
  .fieldLink al_RX3 25 "TableTongue$Objects" "cellKinds" "[B",
  .fieldLink al_RX3 28 "TableTongue$Objects" "cellValues" "[J",
  .classLink al_RX3 32 "TableTongue$Part",
  .fieldLink al_RX3 34 "TableTongue$Objects" "parts" "[LTableTongue$Part;",
  .classLink al_RX3 32 "TableTongue$Part",
  .instantiable "TableTongue$Part" 16,
  .initialized "TableTongue$Part",
  .methodLinkNest al_RX3 38 al_yX5_init "TableTongue",
  .fieldLink al_RX3 39 "TableTongue$Objects" "made" "I",
  .fieldLink al_RX3 43 "TableTongue$Objects" "gone" "I",
  .fieldLink al_RX3 46 "TableTongue$Objects" "cellsUsed" "I",
  .fieldLink al_RX3 49 "TableTongue$Objects" "cellCount" "I",
  .fieldLink al_RX3 52 "TableTongue$Objects" "partCount" "I",
  .methodLink al_RX3 55 al_yX5_open,
  .methodLink al_RX5 3 objectInit,
  .instanceMethod objectInit,
  .code objectInit ⟨#[0xb1]⟩ 1 none,
  .fieldLink al_RX5 9 "TableTongue$Part" "kinds" "[B",
  .fieldLink al_RX5 15 "TableTongue$Part" "values" "[J",
  .fieldLink al_RX5 19 "TableTongue$Part" "modes" "[I",
  .fieldLink al_RX5 23 "TableTongue$Part" "functions" "[I",
  .fieldLink al_RX5 26 "TableTongue$Part" "nexts" "[I",
  .fieldLink al_RX5 29 "TableTongue$Part" "bases" "[I",
  .fieldLink al_RX5 32 "TableTongue$Part" "starts" "[I",
  .fieldLink al_RX5 35 "TableTongue$Part" "wants" "[I",
  .fieldLink al_RX5 38 "TableTongue$Part" "lines" "[I",
  .fieldLink al_RX5 41 "TableTongue$Part" "number" "I",
  .fieldLink al_RX5 45 "TableTongue$Part" "state" "I",
  .fieldLink al_RX5 48 "TableTongue$Part" "top" "I",
  .fieldLink al_RX5 51 "TableTongue$Part" "depth" "I",
  .fieldLink al_RX5 54 "TableTongue$Part" "want" "I",
  .fieldLink al_RX5 57 "TableTongue$Part" "resumer" "I",
  .methodLink al_RX10 3 objectInit,
  .instanceMethod objectInit,
  .code objectInit ⟨#[0xb1]⟩ 1 none,
  .fieldLink al_RX10 9 "TableTongue$Tokens" "text" "[B",
  .fieldLink al_RX10 15 "TableTongue$Tokens" "strings" "LTableTongue$Strings;",
  .fieldLink al_RX10 19 "TableTongue$Tokens" "size" "I",
  .fieldLink al_RX10 23 "TableTongue$Tokens" "end" "I",
  .fieldLink al_RX10 26 "TableTongue$Tokens" "line" "I",
  .fieldLink al_RX10 29 "TableTongue$Tokens" "number" "I",
  .fieldLink al_RX10 32 "TableTongue$Tokens" "type" "I",
  .methodLink al_RX10 35 al_yX10_behindBlanks,
  .fieldLink al_RX10 39 "TableTongue$Tokens" "place" "I",
  .methodLink al_RX4 3 objectInit,
  .instanceMethod objectInit,
  .code objectInit ⟨#[0xb1]⟩ 1 none,
  .fieldLink al_RX4 11 "TableTongue$Parser" "places" "[I",
  .fieldLink al_RX4 15 "TableTongue$Parser" "tokens" "LTableTongue$Tokens;",
  .fieldLink al_RX4 19 "TableTongue$Parser" "program" "LTableTongue$Program;",
  .fieldLink al_RX4 23 "TableTongue$Parser" "strings" "LTableTongue$Strings;",
  .classLink al_RX4 27 "TableTongue$Scopes",
  .instantiable "TableTongue$Scopes" 12,
  .initialized "TableTongue$Scopes",
  .methodLink al_RX4 29 al_yX7_init,
  .fieldLink al_RX4 32 "TableTongue$Parser" "scopes" "LTableTongue$Scopes;",
  .methodLink al_RX4 36 al_yX8_begin,
  .methodLink al_RX4 43 al_yX8_putWords,
  .methodLink al_RX4 47 al_yX8_keepLatent,
  .fieldLink al_RX4 51 "TableTongue$Parser" "selfName" "I",
  .methodLink al_RX4 55 al_yX8_dropMade,
  .methodLink al_RX4 58 al_yX8_dropText,
  .methodLink al_RX4 61 al_yX6_clear,
  .methodLink al_RX4 66 al_yX7_clear,
  .fieldLink al_RX4 67 "TableTongue$Parser" "refused" "I",
  .fieldLink al_RX4 70 "TableTongue$Parser" "placeTop" "I",
  .fieldLinkNest al_RX4 73 "TableTongue$Program" "entries" "[I" "TableTongue",
  .methodLink al_RX4 76 al_yX6_addFunction,
  .fieldLinkNest al_RX4 80 "TableTongue$Program" "dots" "[Z" "TableTongue",
  .methodLink al_RX4 84 al_yX7_enter,
  .methodLink al_RX4 88 al_yX10_open,
  .methodLink al_RX4 93 al_yX4_next,
  .methodLink al_RX4 96 al_yX4_emit,
  .methodLink al_RX4 100 al_yX4_block,
  .fieldLinkNest al_RX4 103 "TableTongue$Tokens" "type" "I" "TableTongue",
  .methodLink al_RX4 109 al_yX7_height,
  .fieldLinkNest al_RX4 112 "TableTongue$Tokens" "number" "I" "TableTongue",
  .methodLink al_RX4 130 al_yX10_begin,
  .methodLink al_RX4 144 al_yX6_emit,
  .methodLink al_RX4 154 al_yX4_startsStatement,
  .methodLink al_RX7 3 objectInit,
  .instanceMethod objectInit,
  .code objectInit ⟨#[0xb1]⟩ 1 none,
  .fieldLink al_RX7 13 "TableTongue$Scopes" "names" "[I",
  .fieldLink al_RX7 17 "TableTongue$Scopes" "slots" "[I",
  .fieldLink al_RX7 20 "TableTongue$Scopes" "functionAt" "[I",
  .fieldLink al_RX7 23 "TableTongue$Scopes" "firstAt" "[I",
  .fieldLink al_RX7 26 "TableTongue$Scopes" "heightAt" "[I",
  .fieldLink al_RX7 29 "TableTongue$Scopes" "breaksAt" "[I",
  .fieldLink al_RX7 32 "TableTongue$Scopes" "captured" "[I",
  .fieldLink al_RX7 35 "TableTongue$Scopes" "program" "LTableTongue$Program;",
  .fieldLink al_RX7 39 "TableTongue$Scopes" "level" "I",
  .fieldLink al_RX7 43 "TableTongue$Scopes" "active" "I",
  .methodLink al_RX0 3 objectInit,
  .instanceMethod objectInit,
  .code objectInit ⟨#[0xb1]⟩ 1 none,
  .fieldLink al_RX0 11 "TableTongue$Gathering" "reached" "[B",
  .fieldLink al_RX0 17 "TableTongue$Gathering" "weaknesses" "[I",
  .fieldLink al_RX0 21 "TableTongue$Gathering" "grays" "[I",
  .fieldLink al_RX0 24 "TableTongue$Gathering" "waiting" "[I",
  .fieldLink al_RX0 27 "TableTongue$Gathering" "marked" "[B",
  .fieldLink al_RX0 30 "TableTongue$Gathering" "markOrder" "[I",
  .fieldLink al_RX0 33 "TableTongue$Gathering" "acts" "[I",
  .fieldLink al_RX0 36 "TableTongue$Gathering" "strings" "LTableTongue$Strings;",
  .fieldLink al_RX0 40 "TableTongue$Gathering" "tables" "LTableTongue$Tables;",
  .fieldLink al_RX0 44 "TableTongue$Gathering" "objects" "LTableTongue$Objects;",
  .methodLink al_RX0 48 al_yJ7_fill_031fb,
  .fieldLink al_RX0 54 "TableTongue$Gathering" "marks" "I",
  .fieldLink al_RX0 58 "TableTongue$Gathering" "actCount" "I",
  .fieldLink al_RX0 61 "TableTongue$Gathering" "lastActs" "I",
  .methodLink al_RX2 3 objectInit,
  .instanceMethod objectInit,
  .code objectInit ⟨#[0xb1]⟩ 1 none,
  .fieldLink al_RX2 9 "TableTongue$Machine" "program" "LTableTongue$Program;",
  .fieldLink al_RX2 15 "TableTongue$Machine" "strings" "LTableTongue$Strings;",
  .fieldLink al_RX2 19 "TableTongue$Machine" "tables" "LTableTongue$Tables;",
  .fieldLink al_RX2 23 "TableTongue$Machine" "objects" "LTableTongue$Objects;",
  .fieldLink al_RX2 27 "TableTongue$Machine" "gathering" "LTableTongue$Gathering;",
  .classLink al_RX2 31 "TableTongue$Library",
  .instantiable "TableTongue$Library" 16,
  .initialized "TableTongue$Library",
  .methodLink al_RX2 33 al_yX1_init,
  .fieldLink al_RX2 36 "TableTongue$Machine" "library" "LTableTongue$Library;",
  .methodLink al_RX2 40 al_yX8_dropMade,
  .methodLink al_RX2 45 al_yX3_clear,
  .methodLink al_RX2 50 al_yX9_clear,
  .methodLink al_RX2 53 al_yX0_clear,
  .methodLink al_RX2 56 al_yX1_furnish,
  .fieldLink al_RX2 59 "TableTongue$Machine" "status" "I",
  .fieldLink al_RX2 63 "TableTongue$Machine" "stepsDone" "J",
  .fieldLink al_RX2 67 "TableTongue$Machine" "nestedParts" "I",
  .fieldLink al_RX2 70 "TableTongue$Machine" "pending" "I",
  .fieldLinkNest al_RX2 73 "TableTongue$Objects" "parts" "[LTableTongue$Part;" "TableTongue",
  .fieldLink al_RX2 77 "TableTongue$Machine" "now" "LTableTongue$Part;",
  .fieldLinkNest al_RX2 83 "TableTongue$Program" "entries" "[I" "TableTongue",
  .methodLink al_RX2 89 al_yX5_enter,
  .methodLink al_RX1 3 objectInit,
  .instanceMethod objectInit,
  .code objectInit ⟨#[0xb1]⟩ 1 none,
  .fieldLink al_RX1 11 "TableTongue$Library" "names" "[I",
  .fieldLink al_RX1 15 "TableTongue$Library" "keys" "[I",
  .fieldLink al_RX1 18 "TableTongue$Library" "shelves" "[I",
  .fieldLink al_RX1 21 "TableTongue$Library" "paper" "[B",
  .fieldLink al_RX1 29 "TableTongue$Library" "tables" "LTableTongue$Tables;",
  .fieldLink al_RX1 33 "TableTongue$Library" "objects" "LTableTongue$Objects;",
  .fieldLink al_RX1 37 "TableTongue$Library" "gathering" "LTableTongue$Gathering;",
  .methodLink al_RX1 43 al_yX1_keepNames,
  .methodLink al_RX1 55 al_yX1_fixed,
  .fieldLink al_RX1 65 "TableTongue$Library" "packedKey" "I",
  .methodLink al_RX1 69 al_yJ0_length_8abf5,
  .methodLink al_RX1 75 al_yJ0_charAt_5068e,
  .methodLink al_RX1 79 al_yJ0_substring_37a41,
  .methodLink al_RX1 83 al_yX1_latent,
  .methodLink al_RX1 86 al_yJ0_indexOf_0f7a4,
  .methodLink al_RX1 90 al_yJ0_substring_b52d3,
  .fieldLink al_RX1 108 "TableTongue$Library" "printed" "J",
  .methodLink al_RX1 112 al_yX1_newTable,
  .methodLink al_RX1 115 al_yX9_put,
  .methodLink al_RX1 121 al_yX3_make,
  .methodLink al_RX1 126 al_yX9_open,
  .methodLink al_RJ0 633 al_yJ0_indexOf_7cf53,
  .methodLink al_RJ0 505 al_yJ0_length_8abf5,
  .methodLink al_RJ0 637 al_yJ1_indexOf_4cfef,
  .methodLink al_RJ0 681 al_yJ0_substring_37a41,
  .methodLink al_RJ0 521 al_yJ0_checkBoundsBeginEnd_23922,
  .methodLink al_RJ0 685 al_yJ1_newString_b4f7a,
  .methodLink al_RJ0 1 objectInit,
  .instanceMethod objectInit,
  .code objectInit ⟨#[0xb1]⟩ 1 none,
  .methodLink al_RJ0 1062 al_yJ3_checkFromToIndex_8c36e,
  .methodLink al_RJ1 88 al_yJ1_canEncode_9a6ad,
  .methodLink al_RJ1 92 Lib.Math.max.name,
  .static Lib.Math.max.name,
  .initialized "java/lang/Math",
  .code Lib.Math.max.name Lib.Math.max.code 2 (some .int),
  .methodLink al_RJ1 38 Lib.Math.min.name,
  .static Lib.Math.min.name,
  .initialized "java/lang/Math",
  .code Lib.Math.min.name Lib.Math.min.code 2 (some .int),
  .methodLink al_RJ1 95 al_yJ1_indexOfChar_4cfef,
  .classLink al_RJ1 1 "java/lang/String",
  .instantiable "java/lang/String" 4,
  .initialized "java/lang/String",
  .methodLink al_RJ1 232 al_yJ7_copyOfRange_39247,
  .methodLink al_RJ1 112 al_yJ0_init_031fb,
  .methodLink al_RJ7 339 al_yJ7_copyOfRangeByte_39247,
  .methodLink al_RJ7 343 al_yJ7_checkLength_df160,
  .methodLink al_RJ7 304 Lib.Math.min.name,
  .static Lib.Math.min.name,
  .initialized "java/lang/Math",
  .code Lib.Math.min.name Lib.Math.min.code 2 (some .int),
  .methodLink al_RJ7 150 arraycopyName,
  .native arraycopyName,
  .static arraycopyName,
  .initialized "java/lang/System"]
