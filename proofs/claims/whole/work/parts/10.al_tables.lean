/-! ===== 10: the tables of the methods that are evaluated: the reference, the class, the library (by wip/p1/emit.py) ===== -/
def al_RX8 : String := "TableTongue$Strings"
def al_RJ0 : String := "java/lang/String"
def al_RJ1 : String := "java/lang/StringLatin1"
def al_RJ3 : String := "jdk/internal/util/Preconditions"
def al_RX1 : String := "TableTongue$Library"
def al_RX12 : String := "TableTongueModel"
def al_RX11 : String := "TableTongue"
def al_RX6 : String := "TableTongue$Program"
def al_RX9 : String := "TableTongue$Tables"
def al_RX3 : String := "TableTongue$Objects"
def al_RX5 : String := "TableTongue$Part"
def al_RX10 : String := "TableTongue$Tokens"
def al_RX4 : String := "TableTongue$Parser"
def al_RX7 : String := "TableTongue$Scopes"
def al_RX0 : String := "TableTongue$Gathering"
def al_RX2 : String := "TableTongue$Machine"
def al_RJ7 : String := "java/util/Arrays"
def al_TX12 : u_T := fun k => match k with
  | 0 => ("TableTongueModel", "thrown", "I", false)
  | 1 => ("TableTongueModel", "text", "[I", true)
  | 2 => ("TableTongueModel", "size", "I", false)
  | 3 => ("TableTongueModel", "compiled", "Z", false)
  | 4 => ("TableTongueModel", "faultCode", "I", false)
  | 5 => ("TableTongueModel", "faultAt", "I", false)
  | 6 => ("TableTongueModel", "faultLine", "I", false)
  | 7 => ("TableTongueModel", "pool", "[B", true)
  | 8 => ("TableTongueModel", "poolEnd", "I", false)
  | 9 => ("TableTongueModel", "nameAt", "[I", true)
  | 10 => ("TableTongueModel", "nameLong", "[I", true)
  | 11 => ("TableTongueModel", "nameSort", "[I", true)
  | 12 => ("TableTongueModel", "nameNext", "[I", true)
  | 13 => ("TableTongueModel", "nameHeads", "[I", true)
  | 14 => ("TableTongueModel", "nameMany", "I", false)
  | 15 => ("TableTongueModel", "baseMany", "I", false)
  | 16 => ("TableTongueModel", "basePool", "I", false)
  | 17 => ("TableTongueModel", "madeStrings", "I", false)
  | 18 => ("TableTongueModel", "madeBytes", "I", false)
  | 19 => ("TableTongueModel", "buffer", "[B", true)
  | 20 => ("TableTongueModel", "built", "I", false)
  | 21 => ("TableTongueModel", "tokenKind", "[I", true)
  | 22 => ("TableTongueModel", "tokenAt", "[I", true)
  | 23 => ("TableTongueModel", "tokenValue", "[J", true)
  | 24 => ("TableTongueModel", "tokenMany", "I", false)
  | 25 => ("TableTongueModel", "ti", "I", false)
  | 26 => ("TableTongueModel", "protoStart", "[I", true)
  | 27 => ("TableTongueModel", "protoParams", "[I", true)
  | 28 => ("TableTongueModel", "protoLocals", "[I", true)
  | 29 => ("TableTongueModel", "protoCaptured", "[I", true)
  | 30 => ("TableTongueModel", "protoDots", "[Z", true)
  | 31 => ("TableTongueModel", "protoLine", "[I", true)
  | 32 => ("TableTongueModel", "fromLocal", "[Z", true)
  | 33 => ("TableTongueModel", "fromIndex", "[I", true)
  | 34 => ("TableTongueModel", "protos", "I", false)
  | 35 => ("TableTongueModel", "op", "[I", true)
  | 36 => ("TableTongueModel", "opA", "[I", true)
  | 37 => ("TableTongueModel", "opB", "[I", true)
  | 38 => ("TableTongueModel", "opLine", "[I", true)
  | 39 => ("TableTongueModel", "wholes", "[J", true)
  | 40 => ("TableTongueModel", "wholeMany", "I", false)
  | 41 => ("TableTongueModel", "words", "I", false)
  | 42 => ("TableTongueModel", "waitState", "[I", true)
  | 43 => ("TableTongueModel", "waitA", "[I", true)
  | 44 => ("TableTongueModel", "waitB", "[I", true)
  | 45 => ("TableTongueModel", "waitC", "[I", true)
  | 46 => ("TableTongueModel", "waits", "I", false)
  | 47 => ("TableTongueModel", "nest", "I", false)
  | 48 => ("TableTongueModel", "knownName", "[I", true)
  | 49 => ("TableTongueModel", "knownSlot", "[I", true)
  | 50 => ("TableTongueModel", "known", "I", false)
  | 51 => ("TableTongueModel", "levelBase", "[I", true)
  | 52 => ("TableTongueModel", "levelProto", "[I", true)
  | 53 => ("TableTongueModel", "level", "I", false)
  | 54 => ("TableTongueModel", "loopChain", "[I", true)
  | 55 => ("TableTongueModel", "loopLevel", "[I", true)
  | 56 => ("TableTongueModel", "loops", "I", false)
  | 57 => ("TableTongueModel", "placeSort", "[I", true)
  | 58 => ("TableTongueModel", "placeArg", "[I", true)
  | 59 => ("TableTongueModel", "placeLine", "[I", true)
  | 60 => ("TableTongueModel", "placeMany", "I", false)
  | 61 => ("TableTongueModel", "chainSort", "I", false)
  | 62 => ("TableTongueModel", "chainArg", "I", false)
  | 63 => ("TableTongueModel", "chainLine", "I", false)
  | 64 => ("TableTongueModel", "lastMulti", "I", false)
  | 65 => ("TableTongueModel", "builtMany", "I", false)
  | 66 => ("TableTongueModel", "builtPool", "I", false)
  | 67 => ("TableTongueModel", "readKind", "I", false)
  | 68 => ("TableTongueModel", "readValue", "J", false)
  | 69 => ("TableTongueModel", "readEnd", "I", false)
  | 70 => ("TableTongueModel", "objKind", "[I", true)
  | 71 => ("TableTongueModel", "meta", "[I", true)
  | 72 => ("TableTongueModel", "firstPlace", "[I", true)
  | 73 => ("TableTongueModel", "lastPlace", "[I", true)
  | 74 => ("TableTongueModel", "markTurn", "[J", true)
  | 75 => ("TableTongueModel", "objData", "[I", true)
  | 76 => ("TableTongueModel", "objCells", "[I", true)
  | 77 => ("TableTongueModel", "made", "I", false)
  | 78 => ("TableTongueModel", "turns", "J", false)
  | 79 => ("TableTongueModel", "plKeyKind", "[I", true)
  | 80 => ("TableTongueModel", "plKey", "[J", true)
  | 81 => ("TableTongueModel", "plKind", "[I", true)
  | 82 => ("TableTongueModel", "plValue", "[J", true)
  | 83 => ("TableTongueModel", "plTable", "[I", true)
  | 84 => ("TableTongueModel", "plNext", "[I", true)
  | 85 => ("TableTongueModel", "plChain", "[I", true)
  | 86 => ("TableTongueModel", "heads", "[I", true)
  | 87 => ("TableTongueModel", "freePlaces", "[I", true)
  | 88 => ("TableTongueModel", "freeMany", "I", false)
  | 89 => ("TableTongueModel", "placesMany", "I", false)
  | 90 => ("TableTongueModel", "gotKind", "I", false)
  | 91 => ("TableTongueModel", "gotNumber", "J", false)
  | 92 => ("TableTongueModel", "cellKind", "[I", true)
  | 93 => ("TableTongueModel", "cellNumber", "[J", true)
  | 94 => ("TableTongueModel", "cellMarked", "[Z", true)
  | 95 => ("TableTongueModel", "freeCells", "[I", true)
  | 96 => ("TableTongueModel", "freeCellMany", "I", false)
  | 97 => ("TableTongueModel", "partState", "[I", true)
  | 98 => ("TableTongueModel", "partObject", "[I", true)
  | 99 => ("TableTongueModel", "partKind", "[I", true)
  | 100 => ("TableTongueModel", "partNumber", "[J", true)
  | 101 => ("TableTongueModel", "frameMany", "[I", true)
  | 102 => ("TableTongueModel", "heights", "[I", true)
  | 103 => ("TableTongueModel", "markMany", "[I", true)
  | 104 => ("TableTongueModel", "depths", "[I", true)
  | 105 => ("TableTongueModel", "resumer", "[I", true)
  | 106 => ("TableTongueModel", "goMode", "[I", true)
  | 107 => ("TableTongueModel", "goWant", "[I", true)
  | 108 => ("TableTongueModel", "stopMode", "[I", true)
  | 109 => ("TableTongueModel", "stopWant", "[I", true)
  | 110 => ("TableTongueModel", "partMany", "I", false)
  | 111 => ("TableTongueModel", "cur", "I", false)
  | 112 => ("TableTongueModel", "vKind", "[I", true)
  | 113 => ("TableTongueModel", "vNumber", "[J", true)
  | 114 => ("TableTongueModel", "marks", "[I", true)
  | 115 => ("TableTongueModel", "fType", "[I", true)
  | 116 => ("TableTongueModel", "fProto", "[I", true)
  | 117 => ("TableTongueModel", "fFunction", "[I", true)
  | 118 => ("TableTongueModel", "fPc", "[I", true)
  | 119 => ("TableTongueModel", "fMode", "[I", true)
  | 120 => ("TableTongueModel", "fWant", "[I", true)
  | 121 => ("TableTongueModel", "fBase", "[I", true)
  | 122 => ("TableTongueModel", "fMarks", "[I", true)
  | 123 => ("TableTongueModel", "fDots", "[I", true)
  | 124 => ("TableTongueModel", "fLine", "[I", true)
  | 125 => ("TableTongueModel", "fFrom", "[I", true)
  | 126 => ("TableTongueModel", "fTo", "[I", true)
  | 127 => ("TableTongueModel", "fGone", "[I", true)
  | 128 => ("TableTongueModel", "fCell", "[I", true)
  | 129 => ("TableTongueModel", "todo", "I", false)
  | 130 => ("TableTongueModel", "mode", "I", false)
  | 131 => ("TableTongueModel", "want", "I", false)
  | 132 => ("TableTongueModel", "line", "I", false)
  | 133 => ("TableTongueModel", "calleeKind", "I", false)
  | 134 => ("TableTongueModel", "callee", "J", false)
  | 135 => ("TableTongueModel", "argKind", "[I", true)
  | 136 => ("TableTongueModel", "arg", "[J", true)
  | 137 => ("TableTongueModel", "args", "I", false)
  | 138 => ("TableTongueModel", "resKind", "[I", true)
  | 139 => ("TableTongueModel", "res", "[J", true)
  | 140 => ("TableTongueModel", "resMany", "I", false)
  | 141 => ("TableTongueModel", "errKind", "I", false)
  | 142 => ("TableTongueModel", "errNumber", "J", false)
  | 143 => ("TableTongueModel", "over", "I", false)
  | 144 => ("TableTongueModel", "left", "I", false)
  | 145 => ("TableTongueModel", "steps", "J", false)
  | 146 => ("TableTongueModel", "finalKind", "[I", true)
  | 147 => ("TableTongueModel", "finalNumber", "[J", true)
  | 148 => ("TableTongueModel", "finalMany", "I", false)
  | 149 => ("TableTongueModel", "output", "[B", true)
  | 150 => ("TableTongueModel", "outMany", "I", false)
  | 151 => ("TableTongueModel", "acts", "[I", true)
  | 152 => ("TableTongueModel", "actsTop", "I", false)
  | 153 => ("TableTongueModel", "actsCalled", "I", false)
  | 154 => ("TableTongueModel", "reached", "[Z", true)
  | 155 => ("TableTongueModel", "partReached", "[Z", true)
  | 156 => ("TableTongueModel", "queue", "[I", true)
  | 157 => ("TableTongueModel", "queued", "I", false)
  | 158 => ("TableTongueModel", "byKey", "[I", true)
  | _ => ("TableTongueModel", "nextKey", "[I", true)
def al_YX12 : Nat → FieldType := fun k => match k with
  | 0 => .int
  | 1 => .array .int
  | 2 => .int
  | 3 => .boolean
  | 4 => .int
  | 5 => .int
  | 6 => .int
  | 7 => .array .byte
  | 8 => .int
  | 9 => .array .int
  | 10 => .array .int
  | 11 => .array .int
  | 12 => .array .int
  | 13 => .array .int
  | 14 => .int
  | 15 => .int
  | 16 => .int
  | 17 => .int
  | 18 => .int
  | 19 => .array .byte
  | 20 => .int
  | 21 => .array .int
  | 22 => .array .int
  | 23 => .array .long
  | 24 => .int
  | 25 => .int
  | 26 => .array .int
  | 27 => .array .int
  | 28 => .array .int
  | 29 => .array .int
  | 30 => .array .boolean
  | 31 => .array .int
  | 32 => .array .boolean
  | 33 => .array .int
  | 34 => .int
  | 35 => .array .int
  | 36 => .array .int
  | 37 => .array .int
  | 38 => .array .int
  | 39 => .array .long
  | 40 => .int
  | 41 => .int
  | 42 => .array .int
  | 43 => .array .int
  | 44 => .array .int
  | 45 => .array .int
  | 46 => .int
  | 47 => .int
  | 48 => .array .int
  | 49 => .array .int
  | 50 => .int
  | 51 => .array .int
  | 52 => .array .int
  | 53 => .int
  | 54 => .array .int
  | 55 => .array .int
  | 56 => .int
  | 57 => .array .int
  | 58 => .array .int
  | 59 => .array .int
  | 60 => .int
  | 61 => .int
  | 62 => .int
  | 63 => .int
  | 64 => .int
  | 65 => .int
  | 66 => .int
  | 67 => .int
  | 68 => .long
  | 69 => .int
  | 70 => .array .int
  | 71 => .array .int
  | 72 => .array .int
  | 73 => .array .int
  | 74 => .array .long
  | 75 => .array .int
  | 76 => .array .int
  | 77 => .int
  | 78 => .long
  | 79 => .array .int
  | 80 => .array .long
  | 81 => .array .int
  | 82 => .array .long
  | 83 => .array .int
  | 84 => .array .int
  | 85 => .array .int
  | 86 => .array .int
  | 87 => .array .int
  | 88 => .int
  | 89 => .int
  | 90 => .int
  | 91 => .long
  | 92 => .array .int
  | 93 => .array .long
  | 94 => .array .boolean
  | 95 => .array .int
  | 96 => .int
  | 97 => .array .int
  | 98 => .array .int
  | 99 => .array .int
  | 100 => .array .long
  | 101 => .array .int
  | 102 => .array .int
  | 103 => .array .int
  | 104 => .array .int
  | 105 => .array .int
  | 106 => .array .int
  | 107 => .array .int
  | 108 => .array .int
  | 109 => .array .int
  | 110 => .int
  | 111 => .int
  | 112 => .array .int
  | 113 => .array .long
  | 114 => .array .int
  | 115 => .array .int
  | 116 => .array .int
  | 117 => .array .int
  | 118 => .array .int
  | 119 => .array .int
  | 120 => .array .int
  | 121 => .array .int
  | 122 => .array .int
  | 123 => .array .int
  | 124 => .array .int
  | 125 => .array .int
  | 126 => .array .int
  | 127 => .array .int
  | 128 => .array .int
  | 129 => .int
  | 130 => .int
  | 131 => .int
  | 132 => .int
  | 133 => .int
  | 134 => .long
  | 135 => .array .int
  | 136 => .array .long
  | 137 => .int
  | 138 => .array .int
  | 139 => .array .long
  | 140 => .int
  | 141 => .int
  | 142 => .long
  | 143 => .int
  | 144 => .int
  | 145 => .long
  | 146 => .array .int
  | 147 => .array .long
  | 148 => .int
  | 149 => .array .byte
  | 150 => .int
  | 151 => .array .int
  | 152 => .int
  | 153 => .int
  | 154 => .array .boolean
  | 155 => .array .boolean
  | 156 => .array .int
  | 157 => .int
  | 158 => .array .int
  | _ => .array .int
def al_TS2 : u_T := fun k => match k with
  | 0 => ("java/lang/String", "value", "[B", true)
  | _ => ("java/lang/String", "coder", "B", true)
def al_YS2 : Nat → FieldType := fun k => match k with
  | 0 => .array .byte
  | _ => .byte
def al_TJ0 : u_T := fun k => match k with
  | 0 => ("java/lang/String", "value", "[B", true)
  | 1 => ("java/lang/String", "coder", "B", true)
  | 2 => ("java/lang/String", "hash", "I", false)
  | _ => ("java/lang/String", "hashIsZero", "Z", false)
def al_YJ0 : Nat → FieldType := fun k => match k with
  | 0 => .array .byte
  | 1 => .byte
  | 2 => .int
  | _ => .boolean
def al_TX11 : u_T := fun k => match k with
  | 0 => ("TableTongue", "text", "[B", true)
  | 1 => ("TableTongue", "strings", "LTableTongue$Strings;", true)
  | 2 => ("TableTongue", "program", "LTableTongue$Program;", true)
  | 3 => ("TableTongue", "tables", "LTableTongue$Tables;", true)
  | 4 => ("TableTongue", "objects", "LTableTongue$Objects;", true)
  | 5 => ("TableTongue", "parser", "LTableTongue$Parser;", true)
  | 6 => ("TableTongue", "gathering", "LTableTongue$Gathering;", true)
  | 7 => ("TableTongue", "machine", "LTableTongue$Machine;", true)
  | 8 => ("TableTongue", "size", "I", false)
  | 9 => ("TableTongue", "compiled", "Z", false)
  | 10 => ("TableTongue", "faultPlace", "I", false)
  | _ => ("TableTongue", "faultLine", "I", false)
def al_YX11 : Nat → FieldType := fun k => match k with
  | 0 => .array .byte
  | 1 => .object "TableTongue$Strings"
  | 2 => .object "TableTongue$Program"
  | 3 => .object "TableTongue$Tables"
  | 4 => .object "TableTongue$Objects"
  | 5 => .object "TableTongue$Parser"
  | 6 => .object "TableTongue$Gathering"
  | 7 => .object "TableTongue$Machine"
  | 8 => .int
  | 9 => .boolean
  | 10 => .int
  | _ => .int
def al_TX8 : u_T := fun k => match k with
  | 0 => ("TableTongue$Strings", "pool", "[B", true)
  | 1 => ("TableTongue$Strings", "starts", "[I", true)
  | 2 => ("TableTongue$Strings", "lengths", "[I", true)
  | 3 => ("TableTongue$Strings", "chain", "[I", true)
  | 4 => ("TableTongue$Strings", "heads", "[I", true)
  | 5 => ("TableTongue$Strings", "headOf", "[I", true)
  | 6 => ("TableTongue$Strings", "rowHead", "I", false)
  | 7 => ("TableTongue$Strings", "states", "[B", true)
  | 8 => ("TableTongue$Strings", "known", "I", false)
  | 9 => ("TableTongue$Strings", "used", "I", false)
  | 10 => ("TableTongue$Strings", "fixed", "I", false)
  | 11 => ("TableTongue$Strings", "textual", "I", false)
  | 12 => ("TableTongue$Strings", "made", "I", false)
  | 13 => ("TableTongue$Strings", "madeBytes", "I", false)
  | 14 => ("TableTongue$Strings", "row", "[B", true)
  | _ => ("TableTongue$Strings", "rowLength", "I", false)
def al_YX8 : Nat → FieldType := fun k => match k with
  | 0 => .array .byte
  | 1 => .array .int
  | 2 => .array .int
  | 3 => .array .int
  | 4 => .array .int
  | 5 => .array .int
  | 6 => .int
  | 7 => .array .byte
  | 8 => .int
  | 9 => .int
  | 10 => .int
  | 11 => .int
  | 12 => .int
  | 13 => .int
  | 14 => .array .byte
  | _ => .int
def al_TX6 : u_T := fun k => match k with
  | 0 => ("TableTongue$Program", "ops", "[I", true)
  | 1 => ("TableTongue$Program", "as", "[I", true)
  | 2 => ("TableTongue$Program", "bs", "[I", true)
  | 3 => ("TableTongue$Program", "lines", "[I", true)
  | 4 => ("TableTongue$Program", "size", "I", false)
  | 5 => ("TableTongue$Program", "wholes", "[J", true)
  | 6 => ("TableTongue$Program", "wholeCount", "I", false)
  | 7 => ("TableTongue$Program", "entries", "[I", true)
  | 8 => ("TableTongue$Program", "params", "[I", true)
  | 9 => ("TableTongue$Program", "locals", "[I", true)
  | 10 => ("TableTongue$Program", "captures", "[I", true)
  | 11 => ("TableTongue$Program", "bodyLine", "[I", true)
  | 12 => ("TableTongue$Program", "dots", "[Z", true)
  | 13 => ("TableTongue$Program", "sources", "[I", true)
  | _ => ("TableTongue$Program", "functions", "I", false)
def al_YX6 : Nat → FieldType := fun k => match k with
  | 0 => .array .int
  | 1 => .array .int
  | 2 => .array .int
  | 3 => .array .int
  | 4 => .int
  | 5 => .array .long
  | 6 => .int
  | 7 => .array .int
  | 8 => .array .int
  | 9 => .array .int
  | 10 => .array .int
  | 11 => .array .int
  | 12 => .array .boolean
  | 13 => .array .int
  | _ => .int
def al_TX9 : u_T := fun k => match k with
  | 0 => ("TableTongue$Tables", "first", "[I", true)
  | 1 => ("TableTongue$Tables", "last", "[I", true)
  | 2 => ("TableTongue$Tables", "length", "[I", true)
  | 3 => ("TableTongue$Tables", "metas", "[I", true)
  | 4 => ("TableTongue$Tables", "keyKinds", "[B", true)
  | 5 => ("TableTongue$Tables", "valueKinds", "[B", true)
  | 6 => ("TableTongue$Tables", "keys", "[J", true)
  | 7 => ("TableTongue$Tables", "values", "[J", true)
  | 8 => ("TableTongue$Tables", "owners", "[I", true)
  | 9 => ("TableTongue$Tables", "after", "[I", true)
  | 10 => ("TableTongue$Tables", "chain", "[I", true)
  | 11 => ("TableTongue$Tables", "heads", "[I", true)
  | 12 => ("TableTongue$Tables", "headOf", "[I", true)
  | 13 => ("TableTongue$Tables", "keyHead", "I", false)
  | 14 => ("TableTongue$Tables", "free", "I", false)
  | 15 => ("TableTongue$Tables", "used", "I", false)
  | _ => ("TableTongue$Tables", "placed", "I", false)
def al_YX9 : Nat → FieldType := fun k => match k with
  | 0 => .array .int
  | 1 => .array .int
  | 2 => .array .int
  | 3 => .array .int
  | 4 => .array .byte
  | 5 => .array .byte
  | 6 => .array .long
  | 7 => .array .long
  | 8 => .array .int
  | 9 => .array .int
  | 10 => .array .int
  | 11 => .array .int
  | 12 => .array .int
  | 13 => .int
  | 14 => .int
  | 15 => .int
  | _ => .int
def al_TX3 : u_T := fun k => match k with
  | 0 => ("TableTongue$Objects", "kinds", "[B", true)
  | 1 => ("TableTongue$Objects", "details", "[I", true)
  | 2 => ("TableTongue$Objects", "firstCells", "[I", true)
  | 3 => ("TableTongue$Objects", "made", "I", false)
  | 4 => ("TableTongue$Objects", "gone", "I", false)
  | 5 => ("TableTongue$Objects", "cells", "[I", false)
  | 6 => ("TableTongue$Objects", "cellsUsed", "I", false)
  | 7 => ("TableTongue$Objects", "cellKinds", "[B", false)
  | 8 => ("TableTongue$Objects", "cellValues", "[J", false)
  | 9 => ("TableTongue$Objects", "cellCount", "I", false)
  | 10 => ("TableTongue$Objects", "parts", "[LTableTongue$Part;", true)
  | _ => ("TableTongue$Objects", "partCount", "I", false)
def al_YX3 : Nat → FieldType := fun k => match k with
  | 0 => .array .byte
  | 1 => .array .int
  | 2 => .array .int
  | 3 => .int
  | 4 => .int
  | 5 => .array .int
  | 6 => .int
  | 7 => .array .byte
  | 8 => .array .long
  | 9 => .int
  | 10 => .array (.object "TableTongue$Part")
  | _ => .int
def al_TX5 : u_T := fun k => match k with
  | 0 => ("TableTongue$Part", "kinds", "[B", false)
  | 1 => ("TableTongue$Part", "values", "[J", false)
  | 2 => ("TableTongue$Part", "top", "I", false)
  | 3 => ("TableTongue$Part", "modes", "[I", true)
  | 4 => ("TableTongue$Part", "functions", "[I", true)
  | 5 => ("TableTongue$Part", "nexts", "[I", true)
  | 6 => ("TableTongue$Part", "bases", "[I", true)
  | 7 => ("TableTongue$Part", "starts", "[I", true)
  | 8 => ("TableTongue$Part", "wants", "[I", true)
  | 9 => ("TableTongue$Part", "lines", "[I", true)
  | 10 => ("TableTongue$Part", "depth", "I", false)
  | 11 => ("TableTongue$Part", "state", "I", false)
  | 12 => ("TableTongue$Part", "number", "I", false)
  | 13 => ("TableTongue$Part", "slot", "I", false)
  | 14 => ("TableTongue$Part", "want", "I", false)
  | _ => ("TableTongue$Part", "resumer", "I", false)
def al_YX5 : Nat → FieldType := fun k => match k with
  | 0 => .array .byte
  | 1 => .array .long
  | 2 => .int
  | 3 => .array .int
  | 4 => .array .int
  | 5 => .array .int
  | 6 => .array .int
  | 7 => .array .int
  | 8 => .array .int
  | 9 => .array .int
  | 10 => .int
  | 11 => .int
  | 12 => .int
  | 13 => .int
  | 14 => .int
  | _ => .int
def al_TX10 : u_T := fun k => match k with
  | 0 => ("TableTongue$Tokens", "text", "[B", true)
  | 1 => ("TableTongue$Tokens", "strings", "LTableTongue$Strings;", true)
  | 2 => ("TableTongue$Tokens", "size", "I", false)
  | 3 => ("TableTongue$Tokens", "end", "I", false)
  | 4 => ("TableTongue$Tokens", "type", "I", false)
  | 5 => ("TableTongue$Tokens", "place", "I", false)
  | 6 => ("TableTongue$Tokens", "line", "I", false)
  | 7 => ("TableTongue$Tokens", "number", "I", false)
  | _ => ("TableTongue$Tokens", "value", "J", false)
def al_YX10 : Nat → FieldType := fun k => match k with
  | 0 => .array .byte
  | 1 => .object "TableTongue$Strings"
  | 2 => .int
  | 3 => .int
  | 4 => .int
  | 5 => .int
  | 6 => .int
  | 7 => .int
  | _ => .long
def al_TX4 : u_T := fun k => match k with
  | 0 => ("TableTongue$Parser", "tokens", "LTableTongue$Tokens;", true)
  | 1 => ("TableTongue$Parser", "program", "LTableTongue$Program;", true)
  | 2 => ("TableTongue$Parser", "strings", "LTableTongue$Strings;", true)
  | 3 => ("TableTongue$Parser", "scopes", "LTableTongue$Scopes;", true)
  | 4 => ("TableTongue$Parser", "refused", "I", false)
  | 5 => ("TableTongue$Parser", "refusedPlace", "I", false)
  | 6 => ("TableTongue$Parser", "refusedLine", "I", false)
  | 7 => ("TableTongue$Parser", "tailOp", "I", false)
  | 8 => ("TableTongue$Parser", "tailIndex", "I", false)
  | 9 => ("TableTongue$Parser", "tailLine", "I", false)
  | 10 => ("TableTongue$Parser", "places", "[I", true)
  | 11 => ("TableTongue$Parser", "placeTop", "I", false)
  | _ => ("TableTongue$Parser", "selfName", "I", true)
def al_YX4 : Nat → FieldType := fun k => match k with
  | 0 => .object "TableTongue$Tokens"
  | 1 => .object "TableTongue$Program"
  | 2 => .object "TableTongue$Strings"
  | 3 => .object "TableTongue$Scopes"
  | 4 => .int
  | 5 => .int
  | 6 => .int
  | 7 => .int
  | 8 => .int
  | 9 => .int
  | 10 => .array .int
  | 11 => .int
  | _ => .int
def al_TX7 : u_T := fun k => match k with
  | 0 => ("TableTongue$Scopes", "program", "LTableTongue$Program;", true)
  | 1 => ("TableTongue$Scopes", "names", "[I", true)
  | 2 => ("TableTongue$Scopes", "slots", "[I", true)
  | 3 => ("TableTongue$Scopes", "active", "I", false)
  | 4 => ("TableTongue$Scopes", "functionAt", "[I", true)
  | 5 => ("TableTongue$Scopes", "firstAt", "[I", true)
  | 6 => ("TableTongue$Scopes", "heightAt", "[I", true)
  | 7 => ("TableTongue$Scopes", "breaksAt", "[I", true)
  | 8 => ("TableTongue$Scopes", "level", "I", false)
  | 9 => ("TableTongue$Scopes", "captured", "[I", true)
  | 10 => ("TableTongue$Scopes", "foundOp", "I", false)
  | _ => ("TableTongue$Scopes", "foundIndex", "I", false)
def al_YX7 : Nat → FieldType := fun k => match k with
  | 0 => .object "TableTongue$Program"
  | 1 => .array .int
  | 2 => .array .int
  | 3 => .int
  | 4 => .array .int
  | 5 => .array .int
  | 6 => .array .int
  | 7 => .array .int
  | 8 => .int
  | 9 => .array .int
  | 10 => .int
  | _ => .int
def al_TX0 : u_T := fun k => match k with
  | 0 => ("TableTongue$Gathering", "strings", "LTableTongue$Strings;", true)
  | 1 => ("TableTongue$Gathering", "tables", "LTableTongue$Tables;", true)
  | 2 => ("TableTongue$Gathering", "objects", "LTableTongue$Objects;", true)
  | 3 => ("TableTongue$Gathering", "reached", "[B", true)
  | 4 => ("TableTongue$Gathering", "weaknesses", "[I", true)
  | 5 => ("TableTongue$Gathering", "grays", "[I", true)
  | 6 => ("TableTongue$Gathering", "grayCount", "I", false)
  | 7 => ("TableTongue$Gathering", "waiting", "[I", true)
  | 8 => ("TableTongue$Gathering", "waitingCount", "I", false)
  | 9 => ("TableTongue$Gathering", "marked", "[B", true)
  | 10 => ("TableTongue$Gathering", "markOrder", "[I", true)
  | 11 => ("TableTongue$Gathering", "marks", "I", false)
  | 12 => ("TableTongue$Gathering", "acts", "[I", true)
  | 13 => ("TableTongue$Gathering", "actCount", "I", false)
  | _ => ("TableTongue$Gathering", "lastActs", "I", false)
def al_YX0 : Nat → FieldType := fun k => match k with
  | 0 => .object "TableTongue$Strings"
  | 1 => .object "TableTongue$Tables"
  | 2 => .object "TableTongue$Objects"
  | 3 => .array .byte
  | 4 => .array .int
  | 5 => .array .int
  | 6 => .int
  | 7 => .array .int
  | 8 => .int
  | 9 => .array .byte
  | 10 => .array .int
  | 11 => .int
  | 12 => .array .int
  | 13 => .int
  | _ => .int
def al_TX2 : u_T := fun k => match k with
  | 0 => ("TableTongue$Machine", "program", "LTableTongue$Program;", true)
  | 1 => ("TableTongue$Machine", "strings", "LTableTongue$Strings;", true)
  | 2 => ("TableTongue$Machine", "tables", "LTableTongue$Tables;", true)
  | 3 => ("TableTongue$Machine", "objects", "LTableTongue$Objects;", true)
  | 4 => ("TableTongue$Machine", "gathering", "LTableTongue$Gathering;", true)
  | 5 => ("TableTongue$Machine", "library", "LTableTongue$Library;", true)
  | 6 => ("TableTongue$Machine", "now", "LTableTongue$Part;", false)
  | 7 => ("TableTongue$Machine", "status", "I", false)
  | 8 => ("TableTongue$Machine", "stepsDone", "J", false)
  | 9 => ("TableTongue$Machine", "left", "I", false)
  | 10 => ("TableTongue$Machine", "nestedParts", "I", false)
  | 11 => ("TableTongue$Machine", "pending", "I", false)
  | 12 => ("TableTongue$Machine", "callStart", "I", false)
  | 13 => ("TableTongue$Machine", "callWant", "I", false)
  | 14 => ("TableTongue$Machine", "callLine", "I", false)
  | 15 => ("TableTongue$Machine", "callId", "I", false)
  | 16 => ("TableTongue$Machine", "at", "I", false)
  | 17 => ("TableTongue$Machine", "errorKind", "I", false)
  | _ => ("TableTongue$Machine", "errorValue", "J", false)
def al_YX2 : Nat → FieldType := fun k => match k with
  | 0 => .object "TableTongue$Program"
  | 1 => .object "TableTongue$Strings"
  | 2 => .object "TableTongue$Tables"
  | 3 => .object "TableTongue$Objects"
  | 4 => .object "TableTongue$Gathering"
  | 5 => .object "TableTongue$Library"
  | 6 => .object "TableTongue$Part"
  | 7 => .int
  | 8 => .long
  | 9 => .int
  | 10 => .int
  | 11 => .int
  | 12 => .int
  | 13 => .int
  | 14 => .int
  | 15 => .int
  | 16 => .int
  | 17 => .int
  | _ => .long
def al_TX1 : u_T := fun k => match k with
  | 0 => ("TableTongue$Library", "strings", "LTableTongue$Strings;", true)
  | 1 => ("TableTongue$Library", "tables", "LTableTongue$Tables;", true)
  | 2 => ("TableTongue$Library", "objects", "LTableTongue$Objects;", true)
  | 3 => ("TableTongue$Library", "gathering", "LTableTongue$Gathering;", true)
  | 4 => ("TableTongue$Library", "names", "[I", true)
  | 5 => ("TableTongue$Library", "keys", "[I", true)
  | 6 => ("TableTongue$Library", "shelves", "[I", true)
  | 7 => ("TableTongue$Library", "packedKey", "I", true)
  | 8 => ("TableTongue$Library", "paper", "[B", true)
  | 9 => ("TableTongue$Library", "printed", "J", false)
  | 10 => ("TableTongue$Library", "part", "LTableTongue$Part;", false)
  | 11 => ("TableTongue$Library", "id", "I", false)
  | 12 => ("TableTongue$Library", "first", "I", false)
  | 13 => ("TableTongue$Library", "given", "I", false)
  | 14 => ("TableTongue$Library", "line", "I", false)
  | _ => ("TableTongue$Library", "from", "I", false)
def al_YX1 : Nat → FieldType := fun k => match k with
  | 0 => .object "TableTongue$Strings"
  | 1 => .object "TableTongue$Tables"
  | 2 => .object "TableTongue$Objects"
  | 3 => .object "TableTongue$Gathering"
  | 4 => .array .int
  | 5 => .array .int
  | 6 => .array .int
  | 7 => .int
  | 8 => .array .byte
  | 9 => .long
  | 10 => .object "TableTongue$Part"
  | 11 => .int
  | 12 => .int
  | 13 => .int
  | 14 => .int
  | _ => .int
def al_cl : List vw_C := [(al_RX12, al_TX12, 160), (al_RJ0, al_TS2, 2), (al_RJ0, al_TJ0, 4), (al_RX11, al_TX11, 12), (al_RX8, al_TX8, 16), (al_RX6, al_TX6, 15), (al_RX9, al_TX9, 17), (al_RX3, al_TX3, 12), (al_RX5, al_TX5, 16), (al_RX10, al_TX10, 9), (al_RX4, al_TX4, 13), (al_RX7, al_TX7, 12), (al_RX0, al_TX0, 15), (al_RX2, al_TX2, 19), (al_RX1, al_TX1, 16)]
def al_tyf : Nat → Nat → FieldType := fun k => match k with
  | 0 => al_YX12
  | 1 => al_YS2
  | 2 => al_YJ0
  | 3 => al_YX11
  | 4 => al_YX8
  | 5 => al_YX6
  | 6 => al_YX9
  | 7 => al_YX3
  | 8 => al_YX5
  | 9 => al_YX10
  | 10 => al_YX4
  | 11 => al_YX7
  | 12 => al_YX0
  | 13 => al_YX2
  | 14 => al_YX1
  | 2000 => fun j => match j with
    | 0 => .object "TableTongue$Strings"
    | _ => .object "and break do else elseif end false for function if in "
  | 2001 => fun j => match j with
    | 0 => .object "TableTongue$Strings"
    | _ => .object "local nil not or repeat return then true until while "
  | 2002 => fun j => match j with
    | 0 => .object "TableTongue$Strings"
    | _ => .object "__index __newindex __call __add __sub __mul __idiv __mod __band __bor __bxor __shl __shr "
  | 2003 => fun j => match j with
    | 0 => .object "TableTongue$Strings"
    | _ => .object "__unm __bnot __concat __len __eq __lt __le __gc __mode "
  | 2004 => fun j => match j with
    | 0 => .object "TableTongue$Parser"
    | _ => .object "self"
  | 2005 => fun j => match j with
    | 0 => .object "TableTongue$Library"
    | _ => .object "print type tostring tonumber next pairs ipairs rawget rawset rawequal rawlen getmetatable "
  | 2006 => fun j => match j with
    | 0 => .object "TableTongue$Library"
    | _ => .object "setmetatable error pcall select collect list.insert list.remove list.concat list.pack "
  | 2007 => fun j => match j with
    | 0 => .object "TableTongue$Library"
    | _ => .object "list.unpack text.sub text.byte text.char text.rep part.new part.go part.stop part.state "
  | 2008 => fun j => match j with
    | 0 => .object "TableTongue$Library"
    | _ => .object "part.running ipairs "
  | 2009 => fun j => match j with
    | 0 => .object "TableTongue$Library"
    | _ => .object "list"
  | 2010 => fun j => match j with
    | 0 => .object "TableTongue$Library"
    | _ => .object "text"
  | 2011 => fun j => match j with
    | 0 => .object "TableTongue$Library"
    | _ => .object "part"
  | 2012 => fun j => match j with
    | 0 => .object "TableTongue$Library"
    | _ => .object "n"
  | 2013 => fun j => match j with
    | 0 => .object "TableTongue$Tokens"
    | _ => .object "+-*%&|~<>=#(){}[];:,."
  | 2999 => fun _ => .object "TableTongue$Part"
  | _ => fun _ => .int
def al_dfl : Nat → Nat := fun k => match k with
  | 0 => 8598671120004952744802343632202003015758426573480726932366997923460386159692077450080078432629339148390347322134525782292431735672227007739397982590720711359607375768280440264746480361571888065175108985712464046897484475851627328527302016158891512064221776900916052938570264242502663303306082911129852556363023682265886900632838461412148974242246142618444313183960570815325450768027114828768039664037186323371867286619803654692728601012490092697796692387866178015028403524739678415558067821278306437555156182960761703546499152261034315877438101827747800452756112689654166230412686020466433274778651888412354782314023351709899508600788361154142760659248074534913214074805142645210809515540886702512642928852919426737871881509749364241962223075233317268204052045464314534298568104842600911217338583627934300806368497758836828775411368690392453265239588558328961425620726358232492532613246101880904498508050559330910845547332783908770843814988293048467401107989939117217716131123346663270591245551327764107289237919397707140579666355674246713167952465790308595963470943733470943002747182809151611608351068761761692213257118216175977192938636082697598409625290783387326004330272850486691368597970897679481523999852044552613034843044102430714631887548121089020287557966545917505632816189425846916683027228449479378905746676983200353207861574388089354891140021999959124904633754566254307547568676482086876436067778775089191391925777843089216890551520279261365638552244774359691122261237027125979203194253830832192153232904782806239815699825089379901855837583543493677410342878194885517964480648435036554820029753758336443872717557678309450475107060746610883951813113893287820647136004110019970892787007605621796992433037662756698757298450074704694118755323504386851865925571165506455726622482573652284134564890623844943048718599138124987751259585476427408641932832328641745472436270474166856882491031152827220732682479573881961141413626856538181405397892710472593665013131852296395309512558470146330808290965010704546828070838582776065133165734034890158927294366958270546383124355828240325543143016604109981034810723416306685976648065943375262327613090990047131760260165967665333955160008268834429298077527868013766097185285802896710844331717616508743671064877382203376139419341959020264785268470767504492377066453653510550869197699004508340653886059671412748344669143166068500115277893059367575556437971583253535161591932694766762639059151339588769124845141823552830096381037126254567775907353982160171861052890046973142911470252584791204051770302891646371511887411037620676038130111786240778468037909889283076752630214699942444961125984876197183916402307736999911523194087492304743648589575078649278483737012027314030832857087805164831526700009122480468423969734480418412181619487430492392102519518517717913131338352599074509956554941261517445526417079524538406568753878871748932216680676834130131731347134790013664674969037026608689275547199755151984738912532984504336563266901200350874201432279870212910521832743949276357402403995865221731113432195273346291436951047885762227904100361929463546977827557927181175589533712844189019384506725370868879193211338382859053730019747517416097837363121167397349381969799517261270509018171116235230514546668491967044175649481317990082722238209077465394057888383794535782957842424891854244197078951622578602704977475629523547159464027354624325747212408056193446014606719046008283742624938543806990209432919175544325646045576953856
  | 1 => 55340232221128654848
  | 2 => 55340232221128654848
  | 3 => 2898403142262943758522127678937971034824823100316873335747163601737959296464127892255986937014971491543890205966179805333666205157504899094097865666976943502614504683864064
  | 4 => 151801689980482963764371510039187980287167487323106588767676018520572754675996510168970287776077843371390308398237608933542356553039345107650260049955556780844280331151183292537268379797078136451557074477015464924402859938790335623738701985648797812870672391977092945862554261375327107880720529268915879287472197811405062144
  | 5 => 32145258215588019628459558495001704324759007040617127692560673854896873122373122823692956131002562186951064504564223252074757826924857562365448465933952002668045827483395289424160011700921242015594648898080136923094312487047870345820401133533601507638842958853270898549036794178091585704014528628391936
  | 6 => 6807023201650007916862689451119469248162203786341588625039148897004766531686443123224317037628847319143468354088141057494733209856892016981104685523223940964943060575169210371941409660906473414414539076124962911503894707700799409446226746128264072431550615576288692021918961762304
  | 7 => 305237477091057782321770559267635702383945859740601340189412399018639045948900105305948377866861308982691241081975765827857264508378563618411496685483358495377775310579699476924869406298070686817918623150620294866275541724097525963554816
  | 8 => 64636549958226413656990971002683887627938501910311403522433313944558005329765301544509532540153968668000286197697966517584810966405916380063538197906139170249631889216459035143156096325892568269724177529513193766912
  | 9 => 4562440617622195218641171605700291324893228507248559930579192517899275167208677386505912811317371399778642309573594407310688704721375437998252661319722475525109789955100204877121614011361656832
  | 10 => 305237477091057782321770559267635702383945846053279487322826743092225825705763186867741342202982526736889491756901546040918982009313325427873078432571302369423386161112720017850275445825081765877210687939850122402396583811015399754956800
  | 11 => 64636549958226413656977283680831021042282578395494302648458634259036259649973563966955834714652342635840768459264014403385475039471367590164928944579217892343584565417104264210321839790992787297556441236218339917824
  | 12 => 6807023201650007916861248007888338745718049324064050847721777039162805027007400966541276925046971560069886527815196532995635607799073047113509538268434840040580001501474997388083655271109882902672944573433975650429952002960257384692254694786685223686812400373218582199091236700160
  | 13 => 25164835917856289730927475999919701398386856086915571652699466838971252434076831284503858228079808491410765356855335352400184588416758385578920415520272105762997920320440653216777881390551602814084452214258364233805184500561950127605011092917156641102054822348581124696340158918100870246594732343298973212510548981240433156754801861969527577718087401947924607273076955984941695723649265004794220422148808245248
  | 14 => 305237477091057782321792104784288444521831518835161617196426493207573006526765666506006447236305299844115050635896687756001604412441514225713987869946563627139084345592964506403255141082240604477644723908505208916696967241108523076026368
  | 2000 => 17203366121197754971275412683082601809147785260304121196285505757136855429432806274214515276219241126657297940805892993103304544713234577310603870054673844705784063695809050572676021069380745006012313222066599473884691577443930106152187107858871710930257321488835430417276096051981016652184575727208925977959711263284394376583065500580411291540713288881125696325722917691922482848569547335726966764565125689217341865166062530398670794727845317910435920132782605084151069151165106781959646964047530745263917980033519232444736858367139232598549071444070128566893914818474108855331383128151525507405050401880006838089828222816955432301235891514419227951529250209319906381183842167437377429038658619203882413835482149023063479905775939171687932523019487843322781569366563726718728416409620366596946123512733222322276524856733390044171287684597752945451026158873091409751050868069179215503104485100907263135125499291373155637116726772072196563290395728784036634942801937732614123774672942765353498827462694439184568213007996860812413962344103634747619007408012037785440119523656665762017999592824324477570967294776015477176292764683184803754150764939837537
  | 2001 => 3642954477083228850209881617128900602266882612939787732040517923473411901913215119842967460374004511672183067057748305058952716381117628806846708053994408864072463811734719958890274135339740867464764073474804060241245002016943067059635101511167506858280387210808724615227180890504182193241782465659327902326700019466206934839465565056863695565169776471501112654258571550927929914923880986966401060782158410223903606389278586833175356171098876896544797359755902801182830683190356053170786738491265075772361954344845699914262081961722007338093484879852680355075938643062860370827721265102656484104074342250769983582889697698976393542817444388655491776183401862927328549496837657966359538724305844636225057613265072864468548927040236822932914612266673065457454146808139325028937142443379082491995153009097596031929831183019188565807972044354235592448334501441858844217265912068547424803634606963102009537044297608486416001555868051376323401179755819560362708466491692978822387997105893447664178550515399263330580815998786988213007688912370482006393203424574786002396112402344986844449424450728652563125771354892662967485376034242668
  | 2002 => 6779575558313389339148914971507928717284090355661131407533748008391311618771341402060672434564873250855379520591654765987724396094305708161147894421164252029532837466379296668775124074009967264273949312143720279921406623748994909993997920601388085015681339208522633976510061047692575013182877755718024878089404936967692992940280229998901714312423208912178477892434197238321107435106934710263657111839319538583909970907666310165559751865671632988711095541530333612404148547818706697716110194466138254567173881048897954586443111014580652919215867179530787247401212497366559125571831098290108835744881273737883504365690089651734665665514765147623441707846655801036126691170651647280814590392990221654531390071712534281154545145089918179690820120368387622456856432178386973760976200646406329378029214618934935918573593553171448676793839941734038301959403042108780221818807357754491526395535390862820544851448750677953890661044132433176870551043710150547242914729228571359768564450742703088936050490062476777505595107509424044613242152780715570149862102665646735838549147405968499107468132662170041143370209441005243432773874925664873692163022192107351384094201720630766115129301806169008578919492017098291189908937180199122032634120452352067974812041947406721249423291381960675147639347485034693081465724415129159158918435502568179327026210769834629182990725575530779136020458727481909129993721462458993360966704706832414145385629624339719894835693979526238820112623102344530801503218946096763607141704518865677702272758911833549867264266120797772849153615685862254634425523818015136022579463280238093107541940993654778032609938127049712601854370755707298557132482257802094313779503207118176279465118371182793426571920311499569566404079040372258060157727281535873115928980122150861125955707834887686175620985357959499754140114671990434626054016871583903608443784251572071523183398283152108866909293614551929978975
  | 2003 => 81240599563279452776754591456055632956736351815098079169458148387115327518138019476204636337744248930306225711838564663111131677899782573214948406955847911981115093582350929903170485925172861895466590847957406619696133998251907752255596093140749828040635812240531957068731381550130518956865270514221694315410811937509547230687195591065612195365874171301897485244340412669429294485067168947228192693429471755595071587791653690959384181514249061702933981942759634760621240859271545447511153778997196849343941553457898253089210327959946062437725307583419121310536446454726811688787989807588204823733329474434022889872310434959513696227247930221994616611227847288572022081968467790047855300018161399772169573844380257754679090188980051233250060830790618840403694250648366268950001239184509174455193389173321075479601766424060505384950605272431434569523920114395552903163572821221842000661218585008009955076774777086615183361713366100559955629740026295959549980088986070010871471878687511152775798261596471682156079458586136679659645030302633099219637652332526354034283128606454169073190189193654898714533770408297029711790960064763062095119545197757337003929886351867112325215
  | 2004 => 10741853750192833043190047304215825403826586065388470140816532177011
  | 2005 => 32015640384661411702187838246728669136492161798620487667202960046433176924261148691929961202127001836899264262349755551590736585471332355628181485184351068181760011270956939825501793250872710940684281322992417252521789387766545052991716025888178486257446457553573412084119730940758896994966785422473498246977191579918780895209105722032373989891771250673559914558505206004826167229756479204196368462935014183040222259836764320821382448473954345499887463970858434211548997885093055404078860683284303557743903243684796893069559476836459586127847945932531552793596172185062544704942231566288752001659113267029552652251551579486368338741446825744214100060683380232042815296998833389404345193850012632229253196824430883465317125760907090330868986729209729314860833082125683684429168363904682509893111960925351209783250766801655570081113508112619740356415166901877929359320148147108193977724376031624314002593274054339901722126207733628022778186104708514933864525453877330756602289092059039714773154066072410449346938339750641738223028494896195241178709400418146549983334424974190370718121656688980362517830874893131115196113051069360945982323284696195532436161791142457481187125687064639863565213425777771034828452370448609657210091049204341707995847077676606877907869655167665494833284527839692704599230893790004472562932070875067434854299174400130149748997977803741570894906656778522804825716483928313951374991651897045089321084182383965194514182469583359188568777956080691477693827590158891198389892328053361639186277524499965878684807582153415346459992644655183311437591734523763383192608950338968881759700604123689335024009074035535536966713495584564486808935535003867726110478244937559449843341128374769754603948436628689850476363796620995795283916280564562890935437916004993566580241580274837928107573724205263183980835983235451574340524410206682623846244306662125680104278877583058691850412226149384093623908244752893016966955120
  | 2006 => 64375919001462099428053041103611442316144593643932787403607419168762381453624993359132593350401349915240847007927825686506498804988142144710496775865012489981438222243656497523182538351365111919979187643948536488873560732006692875033110962455002760992504567640373807007360452832284072823514398354288245384784556134854698410672910385661997963472640710521237452352296488650832442582509323389669714061495414408526618181245203340587322210866155002226396364242729623017822027319543145704850002400971277513878715507824691394850081001937642456081901258581765330639478309850404673741188987747403499940116371843047512572998031115429600926440043024726639639276663159551557513040291678932974647695863910268147708114415527536797440937062224460896113392654902423568603588873823824818490169393597630576604956919875418048062877907711798084592584531193129010482891984483131243728025323869310236451530105209341051563283541693863629807205675313858576105253557852909317548206776156701777572682803442929996551969479272438301615973851952122245188249174592148463091105884891287086352949911346368108473318650955284764364406271691047258149140090198902472952007243692191112685794903245075963708690637113043312520479566347188661858816110151567399966785960545979402882709325166242769963660810807215517193867091919592262266092612190162651536072500000953101941337507272142655429651191612862552999267920791835795346396539745639862951966369374028262087246669913764872065627778922975643342789044133552508042474871753226666241633046587642228139811254312512853003187794082153378083323794060848005075155157074775274297342154356027028464461913799964914569486422199422510741165551688468724717582422730966062978295087309898205940707463264333855972646422274056230678321814017065521342362547789159043326094379981911700093887077452310899540948034678625109930659847954059582909290905715
  | 2007 => 1435630966572852221178900160546329578345646795358144080836952027195148951604308313504635396527108190331489257416618996931536440429384111555937010993280810643606776819768449113934231690522825625242360360085467263401402552179220626831210692559113008981902402728668741800645201804353329775045575369368838300009406462207056197454874754166418409703637477328395177937235385135322697958674837654579973571092841249542606249823669763187571473197155798507671516048065323588679432393833438188206524466827138968515159474546067619019223377669827080674741485067186915434811379223732299224893411605129591246052514915863084476062229736532098399201615608630243655699342189344893286433497766643647117729186767221093322823209537450889644764079486958738271582953800211587778986588642780292995448557283229950943833212561224189431198103633332025630198293580775825299717071680702321871652900144350102638726332735915500590407828946648512669748705583527964718151496395930279862007970313883890453682038215521522920624282006048558154599620267836346997639826916304368510198740443851047083819253203586952109126997971862673274766525315091802816691947980948266289491976285080697151417106925275361280055542124406671241378339410621002200159157551542331699538436402940657962191575009994142127799253474966286384903031958296513323245076755650233123554704658212317502815542709092694445940475468224854570539587429332669772954863080370871384401895963585020957357800039318725752963369710516342985342828158915244513263644651762412698118854888020060689939486448237686999846095541574093546658441921532692202844764008043136353493364580900271165699260593438464999873322045520163162118543466599876431707553472162541357561713002778564525212330178277016380675093278178711815165650378325699358730155383239688819616296767499973185961467816000827655365572936359881015965330233569458140707695995071022226332487908173161595629973624647057516
  | 2008 => 206150335839078725475914765067533384848978760082643003075661719336690464872259332657502338023125039198571167834750726618246950380331219453810174625214575128865765937109468448103146998785426578972501342791753647072873884120099629689820686212960520573458444381043972272222769047113198116848921226741932335401270834521167531763230896441737309031862409924829394787921390825949418174151258682916728339503657722056802416
  | 2009 => 12216225833552633656961055797003601170653108169913532168386008580204
  | 2010 => 12216225833552633656961167300729593823768815829615429478714957627508
  | 2011 => 12216225833552633656961033496258402640029966596416327657067340890224
  | 2012 => 110
  | 2013 => 1399431314823255409477555663489869228721515834515911250867638182866597341603278881568409930161892678845530925022020547910455482486732517125822917891630887500519774395802622854226148814218053501085724152082981008128130869399461065396065312074973900259602071540699896445746202093416487296388864914416503496193669558605373052216802938955298975817658129619953616578764090159716819882399005799794400416306359124758668874337851090111823872043
  | 3000 => 54
  | 3001 => 53
  | 3002 => 89
  | 3003 => 55
  | 3004 => 4
  | 3005 => 90
  | 3006 => 86
  | 3007 => 88
  | 3008 => 20
  | 3009 => 4
  | 3010 => 4
  | 3011 => 4
  | 3012 => 1
  | 3013 => 21
  | 4000 => 38
  | 4001 => 44
  | 4002 => 46
  | 4003 => 48
  | 4004 => 41
  | 4005 => 41
  | 4006 => 47
  | 4007 => 49
  | 4008 => 51
  | 4009 => 53
  | 4010 => 59
  | 4011 => 61
  | 4012 => 63
  | 4013 => 89
  | 5000 => 14
  | _ => 0
def al_yX8_put : MethodName := ⟨al_RX8, "put", "(I)V"⟩
def al_yJ0_charAt_5068e : MethodName := ⟨al_RJ0, "charAt", "(I)C"⟩
def al_yJ0_isLatin1_aae02 : MethodName := ⟨al_RJ0, "isLatin1", "()Z"⟩
def al_yJ1_charAt_3b067 : MethodName := ⟨al_RJ1, "charAt", "([BI)C"⟩
def al_yJ0_checkIndex_df160 : MethodName := ⟨al_RJ0, "checkIndex", "(II)V"⟩
def al_yJ3_checkIndex_8e157 : MethodName := ⟨al_RJ3, "checkIndex", "(IILjava/util/function/BiFunction;)I"⟩
def al_yJ0_length_8abf5 : MethodName := ⟨al_RJ0, "length", "()I"⟩
def al_yJ0_coder_7d493 : MethodName := ⟨al_RJ0, "coder", "()B"⟩
def al_yX8_find : MethodName := ⟨al_RX8, "find", "()I"⟩
def al_yX8_add : MethodName := ⟨al_RX8, "add", "()I"⟩
def al_yX8_begin : MethodName := ⟨al_RX8, "begin", "()V"⟩
def al_yX8_keepLatent : MethodName := ⟨al_RX8, "keepLatent", "()I"⟩
def al_yX8_keepFixed : MethodName := ⟨al_RX8, "keepFixed", "()I"⟩
def al_yX8_putWords : MethodName := ⟨al_RX8, "putWords", "(Ljava/lang/String;)V"⟩
def al_yX1_latent : MethodName := ⟨al_RX1, "latent", "(Ljava/lang/String;)I"⟩
def al_yX1_fixed : MethodName := ⟨al_RX1, "fixed", "(Ljava/lang/String;)I"⟩
def al_yX12_init : MethodName := ⟨al_RX12, "<init>", "()V"⟩
def al_yX12_internBuilt : MethodName := ⟨al_RX12, "internBuilt", "()V"⟩
def al_yX12_internTypes : MethodName := ⟨al_RX12, "internTypes", "()V"⟩
def al_yX12_internNames : MethodName := ⟨al_RX12, "internNames", "()V"⟩
def al_yX12_hidden : MethodName := ⟨al_RX12, "hidden", "(JJI)I"⟩
def al_yX12_word : MethodName := ⟨al_RX12, "word", "(J)V"⟩
def al_yX12_intern : MethodName := ⟨al_RX12, "intern", "(I)I"⟩
def al_yX12_hashOf : MethodName := ⟨al_RX12, "hashOf", "(I)I"⟩
def al_yX12_compile : MethodName := ⟨al_RX12, "compile", "()I"⟩
def al_yX12_forgetFrom : MethodName := ⟨al_RX12, "forgetFrom", "(II)V"⟩
def al_yX12_readTokens : MethodName := ⟨al_RX12, "readTokens", "()V"⟩
def al_yX12_skip : MethodName := ⟨al_RX12, "skip", "(I)I"⟩
def al_yX12_at : MethodName := ⟨al_RX12, "at", "(I)I"⟩
def al_yX12_readText : MethodName := ⟨al_RX12, "readText", "()Z"⟩
def al_yX12_emit : MethodName := ⟨al_RX12, "emit", "(IIII)I"⟩
def al_yX12_later : MethodName := ⟨al_RX12, "later", "(IIII)V"⟩
def al_yX12_goOn : MethodName := ⟨al_RX12, "goOn", "(IIII)Z"⟩
def al_yX12_readBlock : MethodName := ⟨al_RX12, "readBlock", "()Z"⟩
def al_yX12_isWord : MethodName := ⟨al_RX12, "isWord", "(I)Z"⟩
def al_yX12_beginsStatement : MethodName := ⟨al_RX12, "beginsStatement", "()Z"⟩
def al_yX12_isSign : MethodName := ⟨al_RX12, "isSign", "(I)Z"⟩
def al_yX12_goOnStatement : MethodName := ⟨al_RX12, "goOnStatement", "(IIII)Z"⟩
def al_yX12_reload : MethodName := ⟨al_RX12, "reload", "()V"⟩
def al_yX12_fill : MethodName := ⟨al_RX12, "fill", "(IIIJ)V"⟩
def al_yX12_set : MethodName := ⟨al_RX12, "set", "(IIJIJ)Z"⟩
def al_yX12_placeOf : MethodName := ⟨al_RX12, "placeOf", "(IIJ)I"⟩
def al_yX12_keyHash : MethodName := ⟨al_RX12, "keyHash", "(IIJ)I"⟩
def al_yX12_object : MethodName := ⟨al_RX12, "object", "(I)I"⟩
def al_yX12_how : MethodName := ⟨al_RX12, "how", "(III)V"⟩
def al_yX12_openFrame : MethodName := ⟨al_RX12, "openFrame", "(II)V"⟩
def al_yX12_forget : MethodName := ⟨al_RX12, "forget", "()V"⟩
def al_yX11_init : MethodName := ⟨al_RX11, "<init>", "()V"⟩
def al_yX11_compile : MethodName := ⟨al_RX11, "compile", "()I"⟩
def al_yX11_forget : MethodName := ⟨al_RX11, "forget", "()V"⟩
def al_yX8_init : MethodName := ⟨al_RX8, "<init>", "()V"⟩
def al_yX8_keepNames : MethodName := ⟨al_RX8, "keepNames", "(Ljava/lang/String;)V"⟩
def al_yX8_dropText : MethodName := ⟨al_RX8, "dropText", "()V"⟩
def al_yX8_dropMade : MethodName := ⟨al_RX8, "dropMade", "()V"⟩
def al_yX8_cutTo : MethodName := ⟨al_RX8, "cutTo", "(I)V"⟩
def al_yX6_init : MethodName := ⟨al_RX6, "<init>", "()V"⟩
def al_yX6_clear : MethodName := ⟨al_RX6, "clear", "()V"⟩
def al_yX6_addFunction : MethodName := ⟨al_RX6, "addFunction", "(I)I"⟩
def al_yX6_emit : MethodName := ⟨al_RX6, "emit", "(IIII)I"⟩
def al_yX9_init : MethodName := ⟨al_RX9, "<init>", "()V"⟩
def al_yX9_clear : MethodName := ⟨al_RX9, "clear", "()V"⟩
def al_yX9_open : MethodName := ⟨al_RX9, "open", "(I)V"⟩
def al_yX9_find : MethodName := ⟨al_RX9, "find", "(IIJ)I"⟩
def al_yX9_put : MethodName := ⟨al_RX9, "put", "(IIJIJ)Z"⟩
def al_yX9_add : MethodName := ⟨al_RX9, "add", "(IIJ)I"⟩
def al_yX3_init : MethodName := ⟨al_RX3, "<init>", "()V"⟩
def al_yX3_clear : MethodName := ⟨al_RX3, "clear", "()V"⟩
def al_yX3_make : MethodName := ⟨al_RX3, "make", "(I)I"⟩
def al_yX5_init : MethodName := ⟨al_RX5, "<init>", "()V"⟩
def al_yX5_open : MethodName := ⟨al_RX5, "open", "(II)V"⟩
def al_yX5_enter : MethodName := ⟨al_RX5, "enter", "(IIIIIII)V"⟩
def al_yX10_init : MethodName := ⟨al_RX10, "<init>", "([BLTableTongue$Strings;)V"⟩
def al_yX10_open : MethodName := ⟨al_RX10, "open", "(I)V"⟩
def al_yX10_begin : MethodName := ⟨al_RX10, "begin", "()I"⟩
def al_yX10_behindBlanks : MethodName := ⟨al_RX10, "behindBlanks", "(I)I"⟩
def al_yX4_init : MethodName := ⟨al_RX4, "<init>", "(LTableTongue$Tokens;LTableTongue$Program;LTableTongue$Strings;)V"⟩
def al_yX4_judge : MethodName := ⟨al_RX4, "judge", "(I)I"⟩
def al_yX4_next : MethodName := ⟨al_RX4, "next", "()V"⟩
def al_yX4_emit : MethodName := ⟨al_RX4, "emit", "(IIII)I"⟩
def al_yX4_startsStatement : MethodName := ⟨al_RX4, "startsStatement", "()Z"⟩
def al_yX4_block : MethodName := ⟨al_RX4, "block", "(I)V"⟩
def al_yX7_init : MethodName := ⟨al_RX7, "<init>", "(LTableTongue$Program;)V"⟩
def al_yX7_clear : MethodName := ⟨al_RX7, "clear", "()V"⟩
def al_yX7_enter : MethodName := ⟨al_RX7, "enter", "(I)V"⟩
def al_yX7_height : MethodName := ⟨al_RX7, "height", "()I"⟩
def al_yX0_init : MethodName := ⟨al_RX0, "<init>", "(LTableTongue$Strings;LTableTongue$Tables;LTableTongue$Objects;)V"⟩
def al_yX0_clear : MethodName := ⟨al_RX0, "clear", "()V"⟩
def al_yX2_init : MethodName := ⟨al_RX2, "<init>", "(LTableTongue$Program;LTableTongue$Strings;LTableTongue$Tables;LTableTongue$Objects;LTableTongue$Gathering;)V"⟩
def al_yX2_reset : MethodName := ⟨al_RX2, "reset", "()V"⟩
def al_yX1_init : MethodName := ⟨al_RX1, "<init>", "(LTableTongue$Strings;LTableTongue$Tables;LTableTongue$Objects;LTableTongue$Gathering;)V"⟩
def al_yX1_keepNames : MethodName := ⟨al_RX1, "keepNames", "(Ljava/lang/String;I)I"⟩
def al_yX1_furnish : MethodName := ⟨al_RX1, "furnish", "()V"⟩
def al_yX1_newTable : MethodName := ⟨al_RX1, "newTable", "()I"⟩
def al_yJ0_indexOf_0f7a4 : MethodName := ⟨al_RJ0, "indexOf", "(I)I"⟩
def al_yJ0_indexOf_7cf53 : MethodName := ⟨al_RJ0, "indexOf", "(II)I"⟩
def al_yJ0_substring_b52d3 : MethodName := ⟨al_RJ0, "substring", "(I)Ljava/lang/String;"⟩
def al_yJ0_substring_37a41 : MethodName := ⟨al_RJ0, "substring", "(II)Ljava/lang/String;"⟩
def al_yJ0_init_031fb : MethodName := ⟨al_RJ0, "<init>", "([BB)V"⟩
def al_yJ0_checkBoundsBeginEnd_23922 : MethodName := ⟨al_RJ0, "checkBoundsBeginEnd", "(III)V"⟩
def al_yJ1_canEncode_9a6ad : MethodName := ⟨al_RJ1, "canEncode", "(I)Z"⟩
def al_yJ1_indexOf_4cfef : MethodName := ⟨al_RJ1, "indexOf", "([BIII)I"⟩
def al_yJ1_indexOfChar_4cfef : MethodName := ⟨al_RJ1, "indexOfChar", "([BIII)I"⟩
def al_yJ1_newString_b4f7a : MethodName := ⟨al_RJ1, "newString", "([BII)Ljava/lang/String;"⟩
def al_yJ3_checkFromToIndex_8c36e : MethodName := ⟨al_RJ3, "checkFromToIndex", "(IIILjava/util/function/BiFunction;)I"⟩
def al_yJ7_fill_53178 : MethodName := ⟨al_RJ7, "fill", "([II)V"⟩
def al_yJ7_fill_031fb : MethodName := ⟨al_RJ7, "fill", "([BB)V"⟩
def al_yJ7_checkLength_df160 : MethodName := ⟨al_RJ7, "checkLength", "(II)V"⟩
def al_yJ7_copyOfRange_39247 : MethodName := ⟨al_RJ7, "copyOfRange", "([BII)[B"⟩
def al_yJ7_copyOfRangeByte_39247 : MethodName := ⟨al_RJ7, "copyOfRangeByte", "([BII)[B"⟩
def al_yX4_refuse : MethodName := ⟨al_RX4, "refuse", "(I)V"⟩
def al_yX4_expect : MethodName := ⟨al_RX4, "expect", "(I)V"⟩
def al_yX4_take : MethodName := ⟨al_RX4, "take", "(I)Z"⟩
def al_yX4_push : MethodName := ⟨al_RX4, "push", "(IIII)V"⟩
def al_yX4_cut : MethodName := ⟨al_RX4, "cut", "(I)V"⟩
def al_yX4_startsExpression : MethodName := ⟨al_RX4, "startsExpression", "()Z"⟩
def al_yX4_closedBlock : MethodName := ⟨al_RX4, "closedBlock", "(I)V"⟩
def al_yX4_statement : MethodName := ⟨al_RX4, "statement", "(I)V"⟩
def al_yX4_returnStatement : MethodName := ⟨al_RX4, "returnStatement", "(I)V"⟩
def al_yX4_breakStatement : MethodName := ⟨al_RX4, "breakStatement", "()V"⟩
def al_yX4_whileStatement : MethodName := ⟨al_RX4, "whileStatement", "(I)V"⟩
def al_yX4_endLoop : MethodName := ⟨al_RX4, "endLoop", "(II)V"⟩
def al_yX4_repeatStatement : MethodName := ⟨al_RX4, "repeatStatement", "(I)V"⟩
def al_yX4_ifStatement : MethodName := ⟨al_RX4, "ifStatement", "(I)V"⟩
def al_yX4_condition : MethodName := ⟨al_RX4, "condition", "(I)I"⟩
def al_yX4_newName : MethodName := ⟨al_RX4, "newName", "()V"⟩
def al_yX4_moreNames : MethodName := ⟨al_RX4, "moreNames", "()V"⟩
def al_yX4_forStatement : MethodName := ⟨al_RX4, "forStatement", "(I)V"⟩
def al_yX4_countingFor : MethodName := ⟨al_RX4, "countingFor", "(III)V"⟩
def al_yX4_rowFor : MethodName := ⟨al_RX4, "rowFor", "(II)V"⟩
def al_yX4_adjust : MethodName := ⟨al_RX4, "adjust", "(IIII)V"⟩
def al_yX4_localStatement : MethodName := ⟨al_RX4, "localStatement", "(I)V"⟩
def al_yX4_functionStatement : MethodName := ⟨al_RX4, "functionStatement", "(I)V"⟩
def al_yX4_cutIfNeeded : MethodName := ⟨al_RX4, "cutIfNeeded", "(I)V"⟩
def al_yX4_startName : MethodName := ⟨al_RX4, "startName", "()V"⟩
def al_yX4_fieldName : MethodName := ⟨al_RX4, "fieldName", "()V"⟩
def al_yX4_keyName : MethodName := ⟨al_RX4, "keyName", "()V"⟩
def al_yX4_readTail : MethodName := ⟨al_RX4, "readTail", "()V"⟩
def al_yX4_chain : MethodName := ⟨al_RX4, "chain", "(I)V"⟩
def al_yX4_link : MethodName := ⟨al_RX4, "link", "(I)Z"⟩
def al_yX4_given : MethodName := ⟨al_RX4, "given", "(II)V"⟩
def al_yX4_chainStatement : MethodName := ⟨al_RX4, "chainStatement", "(I)V"⟩
def al_yX4_assignment : MethodName := ⟨al_RX4, "assignment", "(II)V"⟩
def al_yX4_notePlace : MethodName := ⟨al_RX4, "notePlace", "()V"⟩
def al_yX4_assign : MethodName := ⟨al_RX4, "assign", "(III)V"⟩
def al_yX4_row : MethodName := ⟨al_RX4, "row", "(I)I"⟩
def al_yX4_strength : MethodName := ⟨al_RX4, "strength", "()I"⟩
def al_yX4_unary : MethodName := ⟨al_RX4, "unary", "()I"⟩
def al_yX4_binary : MethodName := ⟨al_RX4, "binary", "(I)I"⟩
def al_yX4_expression : MethodName := ⟨al_RX4, "expression", "(II)Z"⟩
def al_yX4_operation : MethodName := ⟨al_RX4, "operation", "(I)V"⟩
def al_yX4_operand : MethodName := ⟨al_RX4, "operand", "(I)Z"⟩
def al_yX4_table : MethodName := ⟨al_RX4, "table", "(I)V"⟩
def al_yX4_separator : MethodName := ⟨al_RX4, "separator", "()V"⟩
def al_yX4_keyedField : MethodName := ⟨al_RX4, "keyedField", "(I)V"⟩
def al_yX4_itemField : MethodName := ⟨al_RX4, "itemField", "(III)V"⟩
def al_yX4_body : MethodName := ⟨al_RX4, "body", "(IZ)V"⟩
def al_yX4_parameters : MethodName := ⟨al_RX4, "parameters", "(I)V"⟩
def al_yX6_addWhole : MethodName := ⟨al_RX6, "addWhole", "(J)I"⟩
def al_yX6_wantOfLast : MethodName := ⟨al_RX6, "wantOfLast", "(I)V"⟩
def al_yX6_land : MethodName := ⟨al_RX6, "land", "(I)V"⟩
def al_yX7_leave : MethodName := ⟨al_RX7, "leave", "()V"⟩
def al_yX7_current : MethodName := ⟨al_RX7, "current", "()I"⟩
def al_yX7_setHeight : MethodName := ⟨al_RX7, "setHeight", "(I)V"⟩
def al_yX7_rise : MethodName := ⟨al_RX7, "rise", "(I)V"⟩
def al_yX7_breaks : MethodName := ⟨al_RX7, "breaks", "()I"⟩
def al_yX7_setBreaks : MethodName := ⟨al_RX7, "setBreaks", "(I)V"⟩
def al_yX7_hide : MethodName := ⟨al_RX7, "hide", "(I)Z"⟩
def al_yX7_reveal : MethodName := ⟨al_RX7, "reveal", "(II)V"⟩
def al_yX7_close : MethodName := ⟨al_RX7, "close", "(I)V"⟩
def al_yX7_resolve : MethodName := ⟨al_RX7, "resolve", "(I)Z"⟩
def al_yX7_slotOf : MethodName := ⟨al_RX7, "slotOf", "(II)I"⟩
def al_yX7_capturedOf : MethodName := ⟨al_RX7, "capturedOf", "(II)I"⟩
def al_yX8_lengthOf : MethodName := ⟨al_RX8, "lengthOf", "(I)I"⟩
def al_yX8_byteOf : MethodName := ⟨al_RX8, "byteOf", "(II)I"⟩
def al_yX8_has : MethodName := ⟨al_RX8, "has", "(II)Z"⟩
def al_yX8_compare : MethodName := ⟨al_RX8, "compare", "(II)I"⟩
def al_yX8_rowLength : MethodName := ⟨al_RX8, "rowLength", "()I"⟩
def al_yX8_rowByte : MethodName := ⟨al_RX8, "rowByte", "(I)I"⟩
def al_yX8_putPiece : MethodName := ⟨al_RX8, "putPiece", "(III)V"⟩
def al_yX8_putString : MethodName := ⟨al_RX8, "putString", "(I)V"⟩
def al_yX8_putWhole : MethodName := ⟨al_RX8, "putWhole", "(J)V"⟩
def al_yX8_keepTextual : MethodName := ⟨al_RX8, "keepTextual", "()I"⟩
def al_yX8_wordOfRow : MethodName := ⟨al_RX8, "wordOfRow", "()I"⟩
def al_yX8_make : MethodName := ⟨al_RX8, "make", "()I"⟩
def al_yX10_stop : MethodName := ⟨al_RX10, "stop", "()V"⟩
def al_yX10_assignFollows : MethodName := ⟨al_RX10, "assignFollows", "()Z"⟩
def al_yX10_byteAt : MethodName := ⟨al_RX10, "byteAt", "(I)I"⟩
def al_yX10_isDigit : MethodName := ⟨al_RX10, "isDigit", "(I)Z"⟩
def al_yX10_isLetter : MethodName := ⟨al_RX10, "isLetter", "(I)Z"⟩
def al_yX10_hexDigit : MethodName := ⟨al_RX10, "hexDigit", "(I)I"⟩
def al_yX10_scanName : MethodName := ⟨al_RX10, "scanName", "()V"⟩
def al_yX10_scanNumber : MethodName := ⟨al_RX10, "scanNumber", "()V"⟩
def al_yX10_scanQuoted : MethodName := ⟨al_RX10, "scanQuoted", "()V"⟩
def al_yX10_escape : MethodName := ⟨al_RX10, "escape", "(I)I"⟩
def al_yX10_scanSign : MethodName := ⟨al_RX10, "scanSign", "()V"⟩
def al_yX10_pairOf : MethodName := ⟨al_RX10, "pairOf", "(II)I"⟩
def al_yX12_lineOf : MethodName := ⟨al_RX12, "lineOf", "(I)I"⟩
def al_yX12_isLetter : MethodName := ⟨al_RX12, "isLetter", "(I)Z"⟩
def al_yX12_isDigit : MethodName := ⟨al_RX12, "isDigit", "(I)Z"⟩
def al_yX12_hex : MethodName := ⟨al_RX12, "hex", "(I)I"⟩
def al_yX12_wordAt : MethodName := ⟨al_RX12, "wordAt", "(II)I"⟩
def al_yX12_wordBehind : MethodName := ⟨al_RX12, "wordBehind", "(J)I"⟩
def al_yX12_readName : MethodName := ⟨al_RX12, "readName", "(I)V"⟩
def al_yX12_readWhole : MethodName := ⟨al_RX12, "readWhole", "(I)V"⟩
def al_yX12_escape : MethodName := ⟨al_RX12, "escape", "(I)I"⟩
def al_yX12_readString : MethodName := ⟨al_RX12, "readString", "(I)V"⟩
def al_yX12_pair : MethodName := ⟨al_RX12, "pair", "(II)I"⟩
def al_yX12_isAlone : MethodName := ⟨al_RX12, "isAlone", "(I)Z"⟩
def al_yX12_readSign : MethodName := ⟨al_RX12, "readSign", "(I)V"⟩
def al_yX12_fail : MethodName := ⟨al_RX12, "fail", "(II)Z"⟩
def al_yX12_here : MethodName := ⟨al_RX12, "here", "()I"⟩
def al_yX12_wrong : MethodName := ⟨al_RX12, "wrong", "()Z"⟩
def al_yX12_take : MethodName := ⟨al_RX12, "take", "()Z"⟩
def al_yX12_needSign : MethodName := ⟨al_RX12, "needSign", "(I)Z"⟩
def al_yX12_needWord : MethodName := ⟨al_RX12, "needWord", "(I)Z"⟩
def al_yX12_lineHere : MethodName := ⟨al_RX12, "lineHere", "()I"⟩
def al_yX12_enter : MethodName := ⟨al_RX12, "enter", "()Z"⟩
def al_yX12_beginsE : MethodName := ⟨al_RX12, "beginsE", "()Z"⟩
def al_yX12_proto : MethodName := ⟨al_RX12, "proto", "()I"⟩
def al_yX12_countLocal : MethodName := ⟨al_RX12, "countLocal", "(I)I"⟩
def al_yX12_know : MethodName := ⟨al_RX12, "know", "(II)V"⟩
def al_yX12_captured : MethodName := ⟨al_RX12, "captured", "(IZII)I"⟩
def al_yX12_resolve : MethodName := ⟨al_RX12, "resolve", "(II)V"⟩
def al_yX12_discharge : MethodName := ⟨al_RX12, "discharge", "()V"⟩
def al_yX12_block : MethodName := ⟨al_RX12, "block", "()V"⟩
def al_yX12_endScope : MethodName := ⟨al_RX12, "endScope", "(I)V"⟩
def al_yX12_statement : MethodName := ⟨al_RX12, "statement", "()Z"⟩
def al_yX12_openLoop : MethodName := ⟨al_RX12, "openLoop", "()V"⟩
def al_yX12_closeLoop : MethodName := ⟨al_RX12, "closeLoop", "(I)V"⟩
def al_yX12_readBreak : MethodName := ⟨al_RX12, "readBreak", "(I)Z"⟩
def al_yX12_readLocal : MethodName := ⟨al_RX12, "readLocal", "()Z"⟩
def al_yX12_localRow : MethodName := ⟨al_RX12, "localRow", "(IIII)Z"⟩
def al_yX12_readFunction : MethodName := ⟨al_RX12, "readFunction", "()Z"⟩
def al_yX12_readFor : MethodName := ⟨al_RX12, "readFor", "(I)Z"⟩
def al_yX12_leftOf : MethodName := ⟨al_RX12, "leftOf", "(I)I"⟩
def al_yX12_strength : MethodName := ⟨al_RX12, "strength", "()I"⟩
def al_yX12_readE : MethodName := ⟨al_RX12, "readE", "(I)Z"⟩
def al_yX12_constant : MethodName := ⟨al_RX12, "constant", "(II)Z"⟩
def al_yX12_operand : MethodName := ⟨al_RX12, "operand", "()Z"⟩
def al_yX12_readOps : MethodName := ⟨al_RX12, "readOps", "(I)Z"⟩
def al_yX12_eventOf : MethodName := ⟨al_RX12, "eventOf", "(I)I"⟩
def al_yX12_binary : MethodName := ⟨al_RX12, "binary", "(III)Z"⟩
def al_yX12_unary : MethodName := ⟨al_RX12, "unary", "(II)Z"⟩
def al_yX12_chain : MethodName := ⟨al_RX12, "chain", "()Z"⟩
def al_yX12_beginsGiven : MethodName := ⟨al_RX12, "beginsGiven", "()Z"⟩
def al_yX12_suffix : MethodName := ⟨al_RX12, "suffix", "()Z"⟩
def al_yX12_given : MethodName := ⟨al_RX12, "given", "()Z"⟩
def al_yX12_row : MethodName := ⟨al_RX12, "row", "(I)Z"⟩
def al_yX12_table : MethodName := ⟨al_RX12, "table", "()Z"⟩
def al_yX12_fields : MethodName := ⟨al_RX12, "fields", "(II)Z"⟩
def al_yX12_isParting : MethodName := ⟨al_RX12, "isParting", "()Z"⟩
def al_yX12_keyed : MethodName := ⟨al_RX12, "keyed", "(III)Z"⟩
def al_yX12_positional : MethodName := ⟨al_RX12, "positional", "(II)Z"⟩
def al_yX12_body : MethodName := ⟨al_RX12, "body", "(I)Z"⟩
def al_yX12_parameters : MethodName := ⟨al_RX12, "parameters", "(I)Z"⟩
def al_yX12_bodyEnd : MethodName := ⟨al_RX12, "bodyEnd", "(II)Z"⟩
def al_yX12_afterChain : MethodName := ⟨al_RX12, "afterChain", "(I)Z"⟩
def al_yX12_assign : MethodName := ⟨al_RX12, "assign", "(II)Z"⟩
def al_yX12_then : MethodName := ⟨al_RX12, "then", "(I)Z"⟩
def al_yX12_afterIf : MethodName := ⟨al_RX12, "afterIf", "(II)Z"⟩
def al_yX12_endIf : MethodName := ⟨al_RX12, "endIf", "(I)Z"⟩
def al_yX12_whileDo : MethodName := ⟨al_RX12, "whileDo", "(I)Z"⟩
def al_yX12_whileEnd : MethodName := ⟨al_RX12, "whileEnd", "(II)Z"⟩
def al_yX12_until : MethodName := ⟨al_RX12, "until", "(III)Z"⟩
def al_yX12_untilEnd : MethodName := ⟨al_RX12, "untilEnd", "(III)Z"⟩
def al_yX12_forTwo : MethodName := ⟨al_RX12, "forTwo", "(III)Z"⟩
def al_yX12_forThree : MethodName := ⟨al_RX12, "forThree", "(III)Z"⟩
def al_yX12_forDo : MethodName := ⟨al_RX12, "forDo", "(III)Z"⟩
def al_yX12_forEnd : MethodName := ⟨al_RX12, "forEnd", "(III)Z"⟩
def al_yX12_inDo : MethodName := ⟨al_RX12, "inDo", "(III)Z"⟩
def al_yX12_inEnd : MethodName := ⟨al_RX12, "inEnd", "(III)Z"⟩
def al_yX12_returned : MethodName := ⟨al_RX12, "returned", "(I)Z"⟩
def al_yX12_functionDone : MethodName := ⟨al_RX12, "functionDone", "(III)Z"⟩
def al_yX12_closeParen : MethodName := ⟨al_RX12, "closeParen", "()Z"⟩
def al_yX12_closeBracket : MethodName := ⟨al_RX12, "closeBracket", "(I)Z"⟩
def al_yX12_chainValue : MethodName := ⟨al_RX12, "chainValue", "()Z"⟩
def al_yX12_called : MethodName := ⟨al_RX12, "called", "(I)Z"⟩
def al_mX8_put : ev_MeK := (al_yX8_put, prog_10_method_10_code, 2, none, [[((0, .aload_n 0, 1, 0, 0, 0, 0), 5, 0), ((1, .getfield 63, 3, 4, 15, 0, 0), 50, 0), ((4, .aload_n 0, 1, 0, 0, 0, 0), 5, 0), ((5, .getfield 35, 3, 4, 14, 20, 1), 50, 0), ((8, .arraylength, 1, 0, 0, 0, 0), 58, 0), ((9, .if_icmp .ge 24, 3, 33, 0, 0, 0), 47, 0), ((12, .aload_n 0, 1, 0, 0, 0, 0), 5, 0), ((13, .getfield 35, 3, 4, 14, 20, 1), 50, 0)],
  [((16, .aload_n 0, 1, 0, 0, 0, 0), 5, 0), ((17, .getfield 63, 3, 4, 15, 0, 0), 50, 0), ((20, .iload_n 1, 1, 0, 0, 0, 0), 1, 1), ((21, .i2b, 1, 0, 0, 0, 0), 24, 0), ((22, .bastore, 1, 0, 0, 0, 0), 55, 0), ((23, .aload_n 0, 1, 0, 0, 0, 0), 5, 0), ((24, .dup, 1, 0, 0, 0, 0), 35, 0), ((25, .getfield 63, 3, 4, 15, 0, 0), 50, 0), ((28, .iconst 1, 1, 1, 0, 0, 0), 12, 0), ((29, .iadd, 1, 0, 0, 0, 0), 16, 0), ((30, .putfield 63, 3, 4, 15, 0, 0), 51, 0)],
  [((33, .return_, 1, 0, 0, 0, 0), 1000, 0)]])
def al_mJ0_charAt_5068e : ev_MeK := (al_yJ0_charAt_5068e, prog_28_method_56_code, 2, (some .char), [[((0, .aload_n 0, 1, 0, 0, 0, 0), 59, 0), ((1, .invokevirtual 492, 3, 2, 1, 1, 2), 59, 0), ((4, .ifCond .eq 12, 3, 16, 0, 0, 0), 38, 0), ((7, .aload_n 0, 1, 0, 0, 0, 0), 59, 0), ((8, .getfield 9, 3, 1, 0, 20, 3), 59, 0), ((11, .iload_n 1, 1, 0, 0, 0, 0), 1, 1), ((12, .invokestatic 495, 3, 3, 2, 0, 4), 57, 0), ((15, .ireturn, 1, 0, 0, 0, 0), 1000, 0)],
  [((16, .aload_n 0, 1, 0, 0, 0, 0), 59, 0), ((17, .getfield 9, 3, 1, 0, 20, 3), 59, 0), ((20, .iload_n 1, 1, 0, 0, 0, 0), 1, 1), ((24, .ireturn, 1, 0, 0, 0, 0), 1000, 0)]])
def al_mJ0_isLatin1_aae02 : ev_MeK := (al_yJ0_isLatin1_aae02, prog_28_method_154_code, 1, (some .boolean), [[((0, .getstatic 38, 3, 1, 0, 0, 5), 59, 0), ((3, .ifCond .eq 14, 3, 17, 0, 0, 0), 38, 0), ((6, .aload_n 0, 1, 0, 0, 0, 0), 59, 0), ((7, .getfield 15, 3, 1, 1, 1, 6), 59, 0), ((10, .ifCond .ne 7, 3, 17, 0, 0, 0), 39, 0), ((13, .iconst 1, 1, 1, 0, 0, 0), 12, 0), ((14, .goto 4, 3, 18, 0, 0, 0), 37, 0)],
  [((17, .iconst 0, 1, 0, 0, 0, 0), 12, 0), ((18, .ireturn, 1, 0, 0, 0, 0), 1000, 0)]])
def al_mJ1_charAt_3b067 : ev_MeK := (al_yJ1_charAt_3b067, prog_30_method_2_code, 2, (some .char), [[((0, .iload_n 1, 1, 0, 0, 0, 0), 1, 1), ((1, .aload_n 0, 1, 0, 0, 0, 0), 59, 0), ((2, .arraylength, 1, 0, 0, 0, 0), 59, 0), ((3, .invokestatic 9, 3, 4, 2, 0, 7), 57, 0), ((6, .aload_n 0, 1, 0, 0, 0, 0), 59, 0), ((7, .iload_n 1, 1, 0, 0, 0, 0), 1, 1), ((8, .baload, 1, 0, 0, 0, 0), 59, 0), ((9, .sipush 255, 3, 255, 0, 0, 0), 14, 0), ((12, .iand, 1, 0, 0, 0, 0), 19, 0), ((13, .i2c, 1, 0, 0, 0, 0), 25, 0), ((14, .ireturn, 1, 0, 0, 0, 0), 1000, 0)]])
def al_mJ0_checkIndex_df160 : ev_MeK := (al_yJ0_checkIndex_df160, prog_28_method_155_code, 2, none, [[((0, .iload_n 0, 1, 0, 0, 0, 0), 1, 0), ((1, .iload_n 1, 1, 0, 0, 0, 0), 1, 1), ((2, .getstatic 1053, 3, 129127208515966861312, 0, 0, 8), 59, 0), ((5, .invokestatic 1059, 3, 5, 3, 0, 9), 57, 0), ((8, .pop, 1, 0, 0, 0, 0), 58, 0), ((9, .return_, 1, 0, 0, 0, 0), 1000, 0)]])
def al_mJ3_checkIndex_8e157 : ev_MeK := (al_yJ3_checkIndex_8e157, prog_36_method_11_code, 3, (some .int), [[((0, .iload_n 0, 1, 0, 0, 0, 0), 1, 0), ((1, .ifCond .lt 8, 3, 9, 0, 0, 0), 40, 0), ((4, .iload_n 0, 1, 0, 0, 0, 0), 1, 0), ((5, .iload_n 1, 1, 0, 0, 0, 0), 1, 1), ((6, .if_icmp .lt 10, 3, 16, 0, 0, 0), 46, 0), ((9, .aload_n 2, 1, 0, 0, 0, 0), 59, 2), ((10, .iload_n 0, 1, 0, 0, 0, 0), 1, 0), ((11, .iload_n 1, 1, 0, 0, 0, 0), 1, 1)],
  [((16, .iload_n 0, 1, 0, 0, 0, 0), 1, 0), ((17, .ireturn, 1, 0, 0, 0, 0), 1000, 0)]])
def al_mJ0_length_8abf5 : ev_MeK := (al_yJ0_length_8abf5, prog_28_method_54_code, 1, (some .int), [[((0, .aload_n 0, 1, 0, 0, 0, 0), 59, 0), ((1, .getfield 9, 3, 1, 0, 20, 3), 59, 0), ((4, .arraylength, 1, 0, 0, 0, 0), 59, 0), ((5, .aload_n 0, 1, 0, 0, 0, 0), 59, 0), ((6, .invokevirtual 335, 3, 7, 1, 1, 10), 59, 0), ((9, .ishr, 1, 0, 0, 0, 0), 59, 0), ((10, .ireturn, 1, 0, 0, 0, 0), 1000, 0)]])
def al_mJ0_coder_7d493 : ev_MeK := (al_yJ0_coder_7d493, prog_28_method_152_code, 1, (some .byte), [[((0, .getstatic 38, 3, 1, 0, 0, 5), 59, 0), ((3, .ifCond .eq 10, 3, 13, 0, 0, 0), 38, 0), ((6, .aload_n 0, 1, 0, 0, 0, 0), 59, 0), ((7, .getfield 15, 3, 1, 1, 1, 6), 59, 0), ((10, .goto 4, 3, 14, 0, 0, 0), 37, 0), ((13, .iconst 1, 1, 1, 0, 0, 0), 12, 0), ((14, .ireturn, 1, 0, 0, 0, 0), 1000, 0)]])
def al_mX8_find : ev_MeK := (al_yX8_find, prog_10_method_23_code, 4, (some .int), [[((0, .aload_n 0, 1, 0, 0, 0, 0), 5, 0), ((1, .getfield 63, 3, 4, 15, 0, 0), 50, 0), ((4, .istore_n 1, 1, 0, 0, 0, 0), 7, 1), ((5, .iconst 0, 1, 0, 0, 0, 0), 12, 0), ((6, .istore_n 2, 1, 0, 0, 0, 0), 7, 2), ((7, .iload_n 2, 1, 0, 0, 0, 0), 1, 2), ((8, .aload_n 0, 1, 0, 0, 0, 0), 5, 0), ((9, .getfield 63, 3, 4, 15, 0, 0), 50, 0), ((12, .if_icmp .ge 21, 3, 33, 0, 0, 0), 47, 0), ((15, .iload_n 1, 1, 0, 0, 0, 0), 1, 1)],
  [((16, .bipush 31, 2, 31, 0, 0, 0), 13, 0), ((18, .imul, 1, 0, 0, 0, 0), 18, 0), ((19, .aload_n 0, 1, 0, 0, 0, 0), 5, 0), ((20, .getfield 35, 3, 4, 14, 20, 1), 50, 0), ((23, .iload_n 2, 1, 0, 0, 0, 0), 1, 2), ((24, .baload, 1, 0, 0, 0, 0), 54, 0), ((25, .iadd, 1, 0, 0, 0, 0), 16, 0), ((26, .istore_n 1, 1, 0, 0, 0, 0), 7, 1), ((27, .iinc 2 1, 3, 1, 0, 0, 0), 36, 2), ((30, .goto (-23), 3, 7, 0, 0, 0), 37, 0)],
  [((33, .aload_n 0, 1, 0, 0, 0, 0), 5, 0), ((34, .iload_n 1, 1, 0, 0, 0, 0), 1, 1), ((35, .iload_n 1, 1, 0, 0, 0, 0), 1, 1), ((36, .bipush 10, 2, 10, 0, 0, 0), 13, 0), ((38, .iushr, 1, 0, 0, 0, 0), 22, 0), ((39, .ixor, 1, 0, 0, 0, 0), 21, 0), ((40, .iload_n 1, 1, 0, 0, 0, 0), 1, 1), ((41, .bipush 20, 2, 20, 0, 0, 0), 13, 0), ((43, .iushr, 1, 0, 0, 0, 0), 22, 0), ((44, .ixor, 1, 0, 0, 0, 0), 21, 0), ((45, .sipush 1023, 3, 1023, 0, 0, 0), 14, 0)],
  [((48, .iand, 1, 0, 0, 0, 0), 19, 0), ((49, .putfield 126, 3, 4, 6, 0, 11), 51, 0), ((52, .aload_n 0, 1, 0, 0, 0, 0), 5, 0), ((53, .getfield 26, 3, 4, 4, 20, 12), 50, 0), ((56, .aload_n 0, 1, 0, 0, 0, 0), 5, 0), ((57, .getfield 126, 3, 4, 6, 0, 11), 50, 0), ((60, .iaload, 1, 0, 0, 0, 0), 52, 0), ((61, .iconst 1, 1, 1, 0, 0, 0), 12, 0), ((62, .isub, 1, 0, 0, 0, 0), 17, 0), ((63, .istore_n 2, 1, 0, 0, 0, 0), 7, 2)],
  [((64, .iload_n 2, 1, 0, 0, 0, 0), 1, 2), ((65, .ifCond .lt 84, 3, 149, 0, 0, 0), 40, 0), ((68, .aload_n 0, 1, 0, 0, 0, 0), 5, 0), ((69, .getfield 20, 3, 4, 2, 20, 13), 50, 0), ((72, .iload_n 2, 1, 0, 0, 0, 0), 1, 2), ((73, .iaload, 1, 0, 0, 0, 0), 52, 0), ((74, .aload_n 0, 1, 0, 0, 0, 0), 5, 0), ((75, .getfield 63, 3, 4, 15, 0, 0), 50, 0), ((78, .if_icmp .ne 7, 3, 85, 0, 0, 0), 45, 0)],
  [((81, .iconst 0, 1, 0, 0, 0, 0), 12, 0), ((82, .goto 4, 3, 86, 0, 0, 0), 37, 0), ((85, .iconst (-1), 1, 4294967295, 0, 0, 0), 12, 0), ((86, .istore_n 3, 1, 0, 0, 0, 0), 7, 3), ((87, .iload_n 3, 1, 0, 0, 0, 0), 1, 3), ((88, .ifCond .lt 39, 3, 127, 0, 0, 0), 40, 0), ((91, .iload_n 3, 1, 0, 0, 0, 0), 1, 3), ((92, .aload_n 0, 1, 0, 0, 0, 0), 5, 0), ((93, .getfield 63, 3, 4, 15, 0, 0), 50, 0)],
  [((96, .if_icmp .ge 31, 3, 127, 0, 0, 0), 47, 0), ((99, .aload_n 0, 1, 0, 0, 0, 0), 5, 0), ((100, .getfield 10, 3, 4, 0, 20, 14), 50, 0), ((103, .aload_n 0, 1, 0, 0, 0, 0), 5, 0), ((104, .getfield 16, 3, 4, 1, 20, 15), 50, 0), ((107, .iload_n 2, 1, 0, 0, 0, 0), 1, 2), ((108, .iaload, 1, 0, 0, 0, 0), 52, 0), ((109, .iload_n 3, 1, 0, 0, 0, 0), 1, 3), ((110, .iadd, 1, 0, 0, 0, 0), 16, 0), ((111, .baload, 1, 0, 0, 0, 0), 54, 0)],
  [((112, .aload_n 0, 1, 0, 0, 0, 0), 5, 0), ((113, .getfield 35, 3, 4, 14, 20, 1), 50, 0), ((116, .iload_n 3, 1, 0, 0, 0, 0), 1, 3), ((117, .baload, 1, 0, 0, 0, 0), 54, 0), ((118, .if_icmp .ne 9, 3, 127, 0, 0, 0), 45, 0), ((121, .iinc 3 1, 3, 1, 0, 0, 0), 36, 3), ((124, .goto (-37), 3, 87, 0, 0, 0), 37, 0), ((127, .iload_n 3, 1, 0, 0, 0, 0), 1, 3)],
  [((128, .aload_n 0, 1, 0, 0, 0, 0), 5, 0), ((129, .getfield 63, 3, 4, 15, 0, 0), 50, 0), ((132, .if_icmp .ne 5, 3, 137, 0, 0, 0), 45, 0), ((135, .iload_n 2, 1, 0, 0, 0, 0), 1, 2), ((136, .ireturn, 1, 0, 0, 0, 0), 1000, 0), ((137, .aload_n 0, 1, 0, 0, 0, 0), 5, 0), ((138, .getfield 23, 3, 4, 3, 20, 16), 50, 0), ((141, .iload_n 2, 1, 0, 0, 0, 0), 1, 2), ((142, .iaload, 1, 0, 0, 0, 0), 52, 0), ((143, .iconst 1, 1, 1, 0, 0, 0), 12, 0)],
  [((144, .isub, 1, 0, 0, 0, 0), 17, 0), ((145, .istore_n 2, 1, 0, 0, 0, 0), 7, 2), ((146, .goto (-82), 3, 64, 0, 0, 0), 37, 0), ((149, .iconst (-1), 1, 4294967295, 0, 0, 0), 12, 0), ((150, .ireturn, 1, 0, 0, 0, 0), 1000, 0)]])
def al_mX8_add : ev_MeK := (al_yX8_add, prog_10_method_24_code, 2, (some .int), [[((0, .aload_n 0, 1, 0, 0, 0, 0), 5, 0), ((1, .getfield 105, 3, 4, 8, 0, 17), 50, 0), ((4, .sipush 3000, 3, 3000, 0, 0, 0), 14, 0), ((7, .if_icmp .ge 20, 3, 27, 0, 0, 0), 47, 0), ((10, .aload_n 0, 1, 0, 0, 0, 0), 5, 0), ((11, .getfield 123, 3, 4, 9, 0, 18), 50, 0), ((14, .aload_n 0, 1, 0, 0, 0, 0), 5, 0), ((15, .getfield 63, 3, 4, 15, 0, 0), 50, 0)],
  [((18, .iadd, 1, 0, 0, 0, 0), 16, 0), ((19, .aload_n 0, 1, 0, 0, 0, 0), 5, 0), ((20, .getfield 10, 3, 4, 0, 20, 14), 50, 0), ((23, .arraylength, 1, 0, 0, 0, 0), 58, 0), ((24, .if_icmp .le 5, 3, 29, 0, 0, 0), 49, 0), ((27, .iconst 0, 1, 0, 0, 0, 0), 12, 0), ((28, .ireturn, 1, 0, 0, 0, 0), 1000, 0), ((29, .aload_n 0, 1, 0, 0, 0, 0), 5, 0), ((30, .getfield 105, 3, 4, 8, 0, 17), 50, 0)],
  [((33, .istore_n 1, 1, 0, 0, 0, 0), 7, 1), ((34, .aload_n 0, 1, 0, 0, 0, 0), 5, 0), ((35, .getfield 35, 3, 4, 14, 20, 1), 50, 0), ((38, .iconst 0, 1, 0, 0, 0, 0), 12, 0), ((39, .aload_n 0, 1, 0, 0, 0, 0), 5, 0), ((40, .getfield 10, 3, 4, 0, 20, 14), 50, 0), ((43, .aload_n 0, 1, 0, 0, 0, 0), 5, 0), ((44, .getfield 123, 3, 4, 9, 0, 18), 50, 0), ((47, .aload_n 0, 1, 0, 0, 0, 0), 5, 0)],
  [((48, .getfield 63, 3, 4, 15, 0, 0), 50, 0), ((51, .invokestatic 83, 3, 999, 0, 0, 19), 59, 0), ((54, .aload_n 0, 1, 0, 0, 0, 0), 5, 0), ((55, .getfield 16, 3, 4, 1, 20, 15), 50, 0), ((58, .iload_n 1, 1, 0, 0, 0, 0), 1, 1), ((59, .aload_n 0, 1, 0, 0, 0, 0), 5, 0), ((60, .getfield 123, 3, 4, 9, 0, 18), 50, 0), ((63, .iastore, 1, 0, 0, 0, 0), 53, 0)],
  [((64, .aload_n 0, 1, 0, 0, 0, 0), 5, 0), ((65, .getfield 20, 3, 4, 2, 20, 13), 50, 0), ((68, .iload_n 1, 1, 0, 0, 0, 0), 1, 1), ((69, .aload_n 0, 1, 0, 0, 0, 0), 5, 0), ((70, .getfield 63, 3, 4, 15, 0, 0), 50, 0), ((73, .iastore, 1, 0, 0, 0, 0), 53, 0), ((74, .aload_n 0, 1, 0, 0, 0, 0), 5, 0), ((75, .getfield 29, 3, 4, 5, 20, 23), 50, 0), ((78, .iload_n 1, 1, 0, 0, 0, 0), 1, 1), ((79, .aload_n 0, 1, 0, 0, 0, 0), 5, 0)],
  [((80, .getfield 126, 3, 4, 6, 0, 11), 50, 0), ((83, .iastore, 1, 0, 0, 0, 0), 53, 0), ((84, .aload_n 0, 1, 0, 0, 0, 0), 5, 0), ((85, .getfield 23, 3, 4, 3, 20, 16), 50, 0), ((88, .iload_n 1, 1, 0, 0, 0, 0), 1, 1), ((89, .aload_n 0, 1, 0, 0, 0, 0), 5, 0), ((90, .getfield 26, 3, 4, 4, 20, 12), 50, 0), ((93, .aload_n 0, 1, 0, 0, 0, 0), 5, 0), ((94, .getfield 126, 3, 4, 6, 0, 11), 50, 0)],
  [((97, .iaload, 1, 0, 0, 0, 0), 52, 0), ((98, .iastore, 1, 0, 0, 0, 0), 53, 0), ((99, .aload_n 0, 1, 0, 0, 0, 0), 5, 0), ((100, .getfield 26, 3, 4, 4, 20, 12), 50, 0), ((103, .aload_n 0, 1, 0, 0, 0, 0), 5, 0), ((104, .getfield 126, 3, 4, 6, 0, 11), 50, 0), ((107, .iload_n 1, 1, 0, 0, 0, 0), 1, 1), ((108, .iconst 1, 1, 1, 0, 0, 0), 12, 0), ((109, .iadd, 1, 0, 0, 0, 0), 16, 0), ((110, .iastore, 1, 0, 0, 0, 0), 53, 0), ((111, .aload_n 0, 1, 0, 0, 0, 0), 5, 0)],
  [((112, .dup, 1, 0, 0, 0, 0), 35, 0), ((113, .getfield 123, 3, 4, 9, 0, 18), 50, 0), ((116, .aload_n 0, 1, 0, 0, 0, 0), 5, 0), ((117, .getfield 63, 3, 4, 15, 0, 0), 50, 0), ((120, .iadd, 1, 0, 0, 0, 0), 16, 0), ((121, .putfield 123, 3, 4, 9, 0, 18), 51, 0), ((124, .aload_n 0, 1, 0, 0, 0, 0), 5, 0), ((125, .dup, 1, 0, 0, 0, 0), 35, 0), ((126, .getfield 105, 3, 4, 8, 0, 17), 50, 0)],
  [((129, .iconst 1, 1, 1, 0, 0, 0), 12, 0), ((130, .iadd, 1, 0, 0, 0, 0), 16, 0), ((131, .putfield 105, 3, 4, 8, 0, 17), 51, 0), ((134, .iload_n 1, 1, 0, 0, 0, 0), 1, 1), ((135, .ireturn, 1, 0, 0, 0, 0), 1000, 0)]])
def al_mX8_begin : ev_MeK := (al_yX8_begin, prog_10_method_7_code, 1, none, [[((0, .aload_n 0, 1, 0, 0, 0, 0), 5, 0), ((1, .iconst 0, 1, 0, 0, 0, 0), 12, 0), ((2, .putfield 63, 3, 4, 15, 0, 0), 51, 0), ((5, .return_, 1, 0, 0, 0, 0), 1000, 0)]])
def al_mX8_keepLatent : ev_MeK := (al_yX8_keepLatent, prog_10_method_15_code, 2, (some .int), [[((0, .aload_n 0, 1, 0, 0, 0, 0), 5, 0), ((1, .invokevirtual 99, 3, 8, 1, 4, 24), 56, 0), ((4, .istore_n 1, 1, 0, 0, 0, 0), 7, 1), ((5, .iload_n 1, 1, 0, 0, 0, 0), 1, 1), ((6, .iconst (-1), 1, 4294967295, 0, 0, 0), 12, 0), ((7, .if_icmp .ne 15, 3, 22, 0, 0, 0), 45, 0), ((10, .aload_n 0, 1, 0, 0, 0, 0), 5, 0), ((11, .invokevirtual 102, 3, 9, 1, 4, 25), 56, 0), ((14, .istore_n 1, 1, 0, 0, 0, 0), 7, 1), ((15, .aload_n 0, 1, 0, 0, 0, 0), 5, 0)],
  [((16, .getfield 32, 3, 4, 7, 20, 26), 50, 0), ((19, .iload_n 1, 1, 0, 0, 0, 0), 1, 1), ((20, .iconst 2, 1, 2, 0, 0, 0), 12, 0), ((21, .bastore, 1, 0, 0, 0, 0), 55, 0), ((22, .aload_n 0, 1, 0, 0, 0, 0), 5, 0), ((23, .aload_n 0, 1, 0, 0, 0, 0), 5, 0), ((24, .getfield 105, 3, 4, 8, 0, 17), 50, 0), ((27, .putfield 108, 3, 4, 10, 0, 27), 51, 0), ((30, .aload_n 0, 1, 0, 0, 0, 0), 5, 0), ((31, .aload_n 0, 1, 0, 0, 0, 0), 5, 0)],
  [((32, .getfield 105, 3, 4, 8, 0, 17), 50, 0), ((35, .putfield 111, 3, 4, 11, 0, 28), 51, 0), ((38, .iload_n 1, 1, 0, 0, 0, 0), 1, 1), ((39, .ireturn, 1, 0, 0, 0, 0), 1000, 0)]])
def al_mX8_keepFixed : ev_MeK := (al_yX8_keepFixed, prog_10_method_16_code, 2, (some .int), [[((0, .aload_n 0, 1, 0, 0, 0, 0), 5, 0), ((1, .invokevirtual 99, 3, 8, 1, 4, 24), 56, 0), ((4, .istore_n 1, 1, 0, 0, 0, 0), 7, 1), ((5, .iload_n 1, 1, 0, 0, 0, 0), 1, 1), ((6, .iconst (-1), 1, 4294967295, 0, 0, 0), 12, 0), ((7, .if_icmp .ne 8, 3, 15, 0, 0, 0), 45, 0), ((10, .aload_n 0, 1, 0, 0, 0, 0), 5, 0), ((11, .invokevirtual 102, 3, 9, 1, 4, 25), 56, 0), ((14, .istore_n 1, 1, 0, 0, 0, 0), 7, 1), ((15, .aload_n 0, 1, 0, 0, 0, 0), 5, 0)],
  [((16, .getfield 32, 3, 4, 7, 20, 26), 50, 0), ((19, .iload_n 1, 1, 0, 0, 0, 0), 1, 1), ((20, .iconst 1, 1, 1, 0, 0, 0), 12, 0), ((21, .bastore, 1, 0, 0, 0, 0), 55, 0), ((22, .aload_n 0, 1, 0, 0, 0, 0), 5, 0), ((23, .aload_n 0, 1, 0, 0, 0, 0), 5, 0), ((24, .getfield 105, 3, 4, 8, 0, 17), 50, 0), ((27, .putfield 108, 3, 4, 10, 0, 27), 51, 0), ((30, .aload_n 0, 1, 0, 0, 0, 0), 5, 0), ((31, .aload_n 0, 1, 0, 0, 0, 0), 5, 0)],
  [((32, .getfield 105, 3, 4, 8, 0, 17), 50, 0), ((35, .putfield 111, 3, 4, 11, 0, 28), 51, 0), ((38, .iload_n 1, 1, 0, 0, 0, 0), 1, 1), ((39, .ireturn, 1, 0, 0, 0, 0), 1000, 0)]])
def al_mX8_putWords : ev_MeK := (al_yX8_putWords, prog_10_method_11_code, 3, none, [[((0, .iconst 0, 1, 0, 0, 0, 0), 12, 0), ((1, .istore_n 2, 1, 0, 0, 0, 0), 7, 2), ((2, .iload_n 2, 1, 0, 0, 0, 0), 1, 2), ((3, .aload_n 1, 1, 0, 0, 0, 0), 59, 1), ((4, .invokevirtual 50, 3, 6, 1, 1, 29), 59, 0), ((7, .if_icmp .ge 18, 3, 25, 0, 0, 0), 47, 0), ((10, .aload_n 0, 1, 0, 0, 0, 0), 59, 0), ((11, .aload_n 1, 1, 0, 0, 0, 0), 59, 1), ((12, .iload_n 2, 1, 0, 0, 0, 0), 1, 2), ((13, .invokevirtual 56, 3, 1, 2, 1, 30), 59, 0)],
  [((16, .invokevirtual 67, 3, 0, 2, 4, 31), 56, 0), ((19, .iinc 2 1, 3, 1, 0, 0, 0), 36, 2), ((22, .goto (-20), 3, 2, 0, 0, 0), 37, 0), ((25, .return_, 1, 0, 0, 0, 0), 1000, 0)]])
def al_mX1_latent : ev_MeK := (al_yX1_latent, prog_3_method_3_code, 2, (some .int), [[((0, .aload_n 0, 1, 0, 0, 0, 0), 59, 0), ((1, .getfield 25, 3, 14, 0, 20, 32), 50, 0), ((4, .invokevirtual 93, 3, 10, 1, 4, 33), 56, 0), ((7, .aload_n 0, 1, 0, 0, 0, 0), 59, 0), ((8, .getfield 25, 3, 14, 0, 20, 32), 50, 0), ((11, .aload_n 1, 1, 0, 0, 0, 0), 59, 1), ((12, .invokevirtual 98, 3, 13, 2, 4, 34), 56, 0), ((15, .aload_n 0, 1, 0, 0, 0, 0), 59, 0)],
  [((16, .getfield 25, 3, 14, 0, 20, 32), 50, 0), ((19, .invokevirtual 102, 3, 11, 1, 4, 35), 56, 0), ((22, .ireturn, 1, 0, 0, 0, 0), 1000, 0)]])
def al_mX1_fixed : ev_MeK := (al_yX1_fixed, prog_3_method_4_code, 2, (some .int), [[((0, .aload_n 0, 1, 0, 0, 0, 0), 59, 0), ((1, .getfield 25, 3, 14, 0, 20, 32), 50, 0), ((4, .invokevirtual 93, 3, 10, 1, 4, 33), 56, 0), ((7, .aload_n 0, 1, 0, 0, 0, 0), 59, 0), ((8, .getfield 25, 3, 14, 0, 20, 32), 50, 0), ((11, .aload_n 1, 1, 0, 0, 0, 0), 59, 1), ((12, .invokevirtual 98, 3, 13, 2, 4, 34), 56, 0), ((15, .aload_n 0, 1, 0, 0, 0, 0), 59, 0)],
  [((16, .getfield 25, 3, 14, 0, 20, 32), 50, 0), ((19, .invokevirtual 105, 3, 12, 1, 4, 36), 56, 0), ((22, .ireturn, 1, 0, 0, 0, 0), 1000, 0)]])
def al_mX12_init : ev_MeK := (al_yX12_init, prog_14_method_1_code, 2, none, [[((0, .aload_n 0, 1, 0, 0, 0, 0), 5, 0), ((1, .invokespecial 1, 3, 0, 0, 0, 37), 58, 0), ((4, .aload_n 0, 1, 0, 0, 0, 0), 5, 0), ((5, .sipush 6000, 3, 6000, 0, 0, 0), 14, 0), ((8, .newarray .int, 2, 0, 0, 0, 40), 58, 0), ((10, .putfield 7, 3, 0, 1, 20, 41), 51, 0), ((13, .aload_n 0, 1, 0, 0, 0, 0), 5, 0), ((14, .ldc 13, 2, 40000, 0, 0, 42), 58, 0)],
  [((16, .newarray .byte, 2, 1, 0, 0, 43), 58, 0), ((18, .putfield 14, 3, 0, 7, 20, 44), 51, 0), ((21, .aload_n 0, 1, 0, 0, 0, 0), 5, 0), ((22, .sipush 3000, 3, 3000, 0, 0, 0), 14, 0), ((25, .newarray .int, 2, 0, 0, 0, 40), 58, 0), ((27, .putfield 18, 3, 0, 9, 20, 45), 51, 0), ((30, .aload_n 0, 1, 0, 0, 0, 0), 5, 0), ((31, .sipush 3000, 3, 3000, 0, 0, 0), 14, 0)],
  [((34, .newarray .int, 2, 0, 0, 0, 40), 58, 0), ((36, .putfield 21, 3, 0, 10, 20, 46), 51, 0), ((39, .aload_n 0, 1, 0, 0, 0, 0), 5, 0), ((40, .sipush 3000, 3, 3000, 0, 0, 0), 14, 0), ((43, .newarray .int, 2, 0, 0, 0, 40), 58, 0), ((45, .putfield 24, 3, 0, 11, 20, 47), 51, 0)],
  [((48, .aload_n 0, 1, 0, 0, 0, 0), 5, 0), ((49, .sipush 3000, 3, 3000, 0, 0, 0), 14, 0), ((52, .newarray .int, 2, 0, 0, 0, 40), 58, 0), ((54, .putfield 27, 3, 0, 12, 20, 48), 51, 0), ((57, .aload_n 0, 1, 0, 0, 0, 0), 5, 0), ((58, .sipush 1024, 3, 1024, 0, 0, 0), 14, 0), ((61, .newarray .int, 2, 0, 0, 0, 40), 58, 0), ((63, .putfield 30, 3, 0, 13, 20, 49), 51, 0)],
  [((66, .aload_n 0, 1, 0, 0, 0, 0), 5, 0), ((67, .sipush 4200, 3, 4200, 0, 0, 0), 14, 0), ((70, .newarray .byte, 2, 1, 0, 0, 43), 58, 0), ((72, .putfield 33, 3, 0, 19, 20, 50), 51, 0), ((75, .aload_n 0, 1, 0, 0, 0, 0), 5, 0), ((76, .sipush 1502, 3, 1502, 0, 0, 0), 14, 0), ((79, .newarray .int, 2, 0, 0, 0, 40), 58, 0)],
  [((81, .putfield 36, 3, 0, 21, 20, 51), 51, 0), ((84, .aload_n 0, 1, 0, 0, 0, 0), 5, 0), ((85, .sipush 1502, 3, 1502, 0, 0, 0), 14, 0), ((88, .newarray .int, 2, 0, 0, 0, 40), 58, 0), ((90, .putfield 39, 3, 0, 22, 20, 52), 51, 0), ((93, .aload_n 0, 1, 0, 0, 0, 0), 5, 0), ((94, .sipush 1502, 3, 1502, 0, 0, 0), 14, 0)],
  [((97, .newarray .long, 2, 10, 0, 0, 53), 58, 0), ((99, .putfield 42, 3, 0, 23, 20, 54), 51, 0), ((102, .aload_n 0, 1, 0, 0, 0, 0), 5, 0), ((103, .bipush 51, 2, 51, 0, 0, 0), 13, 0), ((105, .newarray .int, 2, 0, 0, 0, 40), 58, 0), ((107, .putfield 46, 3, 0, 26, 20, 55), 51, 0), ((110, .aload_n 0, 1, 0, 0, 0, 0), 5, 0), ((111, .bipush 51, 2, 51, 0, 0, 0), 13, 0)],
  [((113, .newarray .int, 2, 0, 0, 0, 40), 58, 0), ((115, .putfield 49, 3, 0, 27, 20, 56), 51, 0), ((118, .aload_n 0, 1, 0, 0, 0, 0), 5, 0), ((119, .bipush 51, 2, 51, 0, 0, 0), 13, 0), ((121, .newarray .int, 2, 0, 0, 0, 40), 58, 0), ((123, .putfield 52, 3, 0, 28, 20, 57), 51, 0), ((126, .aload_n 0, 1, 0, 0, 0, 0), 5, 0), ((127, .bipush 51, 2, 51, 0, 0, 0), 13, 0)],
  [((129, .newarray .int, 2, 0, 0, 0, 40), 58, 0), ((131, .putfield 55, 3, 0, 29, 20, 58), 51, 0), ((134, .aload_n 0, 1, 0, 0, 0, 0), 5, 0), ((135, .bipush 51, 2, 51, 0, 0, 0), 13, 0), ((137, .newarray .boolean, 2, 2, 0, 0, 59), 58, 0), ((139, .putfield 58, 3, 0, 30, 20, 60), 51, 0), ((142, .aload_n 0, 1, 0, 0, 0, 0), 5, 0), ((143, .bipush 51, 2, 51, 0, 0, 0), 13, 0)],
  [((145, .newarray .int, 2, 0, 0, 0, 40), 58, 0), ((147, .putfield 62, 3, 0, 31, 20, 61), 51, 0), ((150, .aload_n 0, 1, 0, 0, 0, 0), 5, 0), ((151, .sipush 1530, 3, 1530, 0, 0, 0), 14, 0), ((154, .newarray .boolean, 2, 2, 0, 0, 59), 58, 0), ((156, .putfield 65, 3, 0, 32, 20, 62), 51, 0), ((159, .aload_n 0, 1, 0, 0, 0, 0), 5, 0)],
  [((160, .sipush 1530, 3, 1530, 0, 0, 0), 14, 0), ((163, .newarray .int, 2, 0, 0, 0, 40), 58, 0), ((165, .putfield 68, 3, 0, 33, 20, 63), 51, 0), ((168, .aload_n 0, 1, 0, 0, 0, 0), 5, 0), ((169, .sipush 14000, 3, 14000, 0, 0, 0), 14, 0), ((172, .newarray .int, 2, 0, 0, 0, 40), 58, 0), ((174, .putfield 71, 3, 0, 35, 20, 64), 51, 0)],
  [((177, .aload_n 0, 1, 0, 0, 0, 0), 5, 0), ((178, .sipush 14000, 3, 14000, 0, 0, 0), 14, 0), ((181, .newarray .int, 2, 0, 0, 0, 40), 58, 0), ((183, .putfield 74, 3, 0, 36, 20, 65), 51, 0), ((186, .aload_n 0, 1, 0, 0, 0, 0), 5, 0), ((187, .sipush 14000, 3, 14000, 0, 0, 0), 14, 0), ((190, .newarray .int, 2, 0, 0, 0, 40), 58, 0)],
  [((192, .putfield 77, 3, 0, 37, 20, 66), 51, 0), ((195, .aload_n 0, 1, 0, 0, 0, 0), 5, 0), ((196, .sipush 14000, 3, 14000, 0, 0, 0), 14, 0), ((199, .newarray .int, 2, 0, 0, 0, 40), 58, 0), ((201, .putfield 80, 3, 0, 38, 20, 67), 51, 0), ((204, .aload_n 0, 1, 0, 0, 0, 0), 5, 0), ((205, .sipush 1501, 3, 1501, 0, 0, 0), 14, 0)],
  [((208, .newarray .long, 2, 10, 0, 0, 53), 58, 0), ((210, .putfield 83, 3, 0, 39, 20, 68), 51, 0), ((213, .aload_n 0, 1, 0, 0, 0, 0), 5, 0), ((214, .sipush 4000, 3, 4000, 0, 0, 0), 14, 0), ((217, .newarray .int, 2, 0, 0, 0, 40), 58, 0), ((219, .putfield 86, 3, 0, 42, 20, 69), 51, 0), ((222, .aload_n 0, 1, 0, 0, 0, 0), 5, 0), ((223, .sipush 4000, 3, 4000, 0, 0, 0), 14, 0)],
  [((226, .newarray .int, 2, 0, 0, 0, 40), 58, 0), ((228, .putfield 89, 3, 0, 43, 20, 70), 51, 0), ((231, .aload_n 0, 1, 0, 0, 0, 0), 5, 0), ((232, .sipush 4000, 3, 4000, 0, 0, 0), 14, 0), ((235, .newarray .int, 2, 0, 0, 0, 40), 58, 0), ((237, .putfield 92, 3, 0, 44, 20, 71), 51, 0)],
  [((240, .aload_n 0, 1, 0, 0, 0, 0), 5, 0), ((241, .sipush 4000, 3, 4000, 0, 0, 0), 14, 0), ((244, .newarray .int, 2, 0, 0, 0, 40), 58, 0), ((246, .putfield 95, 3, 0, 45, 20, 72), 51, 0), ((249, .aload_n 0, 1, 0, 0, 0, 0), 5, 0), ((250, .sipush 1600, 3, 1600, 0, 0, 0), 14, 0), ((253, .newarray .int, 2, 0, 0, 0, 40), 58, 0), ((255, .putfield 98, 3, 0, 48, 20, 73), 51, 0)],
  [((258, .aload_n 0, 1, 0, 0, 0, 0), 5, 0), ((259, .sipush 1600, 3, 1600, 0, 0, 0), 14, 0), ((262, .newarray .int, 2, 0, 0, 0, 40), 58, 0), ((264, .putfield 101, 3, 0, 49, 20, 74), 51, 0), ((267, .aload_n 0, 1, 0, 0, 0, 0), 5, 0), ((268, .bipush 52, 2, 52, 0, 0, 0), 13, 0), ((270, .newarray .int, 2, 0, 0, 0, 40), 58, 0)],
  [((272, .putfield 104, 3, 0, 51, 20, 75), 51, 0), ((275, .aload_n 0, 1, 0, 0, 0, 0), 5, 0), ((276, .bipush 52, 2, 52, 0, 0, 0), 13, 0), ((278, .newarray .int, 2, 0, 0, 0, 40), 58, 0), ((280, .putfield 107, 3, 0, 52, 20, 76), 51, 0), ((283, .aload_n 0, 1, 0, 0, 0, 0), 5, 0), ((284, .bipush 64, 2, 64, 0, 0, 0), 13, 0), ((286, .newarray .int, 2, 0, 0, 0, 40), 58, 0)],
  [((288, .putfield 110, 3, 0, 54, 20, 77), 51, 0), ((291, .aload_n 0, 1, 0, 0, 0, 0), 5, 0), ((292, .bipush 64, 2, 64, 0, 0, 0), 13, 0), ((294, .newarray .int, 2, 0, 0, 0, 40), 58, 0), ((296, .putfield 113, 3, 0, 55, 20, 78), 51, 0), ((299, .aload_n 0, 1, 0, 0, 0, 0), 5, 0), ((300, .sipush 600, 3, 600, 0, 0, 0), 14, 0), ((303, .newarray .int, 2, 0, 0, 0, 40), 58, 0)],
  [((305, .putfield 116, 3, 0, 57, 20, 79), 51, 0), ((308, .aload_n 0, 1, 0, 0, 0, 0), 5, 0), ((309, .sipush 600, 3, 600, 0, 0, 0), 14, 0), ((312, .newarray .int, 2, 0, 0, 0, 40), 58, 0), ((314, .putfield 119, 3, 0, 58, 20, 80), 51, 0), ((317, .aload_n 0, 1, 0, 0, 0, 0), 5, 0), ((318, .sipush 600, 3, 600, 0, 0, 0), 14, 0)],
  [((321, .newarray .int, 2, 0, 0, 0, 40), 58, 0), ((323, .putfield 122, 3, 0, 59, 20, 81), 51, 0), ((326, .aload_n 0, 1, 0, 0, 0, 0), 5, 0), ((327, .sipush 2002, 3, 2002, 0, 0, 0), 14, 0), ((330, .newarray .int, 2, 0, 0, 0, 40), 58, 0), ((332, .putfield 125, 3, 0, 70, 20, 82), 51, 0), ((335, .aload_n 0, 1, 0, 0, 0, 0), 5, 0)],
  [((336, .sipush 2002, 3, 2002, 0, 0, 0), 14, 0), ((339, .newarray .int, 2, 0, 0, 0, 40), 58, 0), ((341, .putfield 128, 3, 0, 71, 20, 83), 51, 0), ((344, .aload_n 0, 1, 0, 0, 0, 0), 5, 0), ((345, .sipush 2002, 3, 2002, 0, 0, 0), 14, 0), ((348, .newarray .int, 2, 0, 0, 0, 40), 58, 0), ((350, .putfield 131, 3, 0, 72, 20, 84), 51, 0)],
  [((353, .aload_n 0, 1, 0, 0, 0, 0), 5, 0), ((354, .sipush 2002, 3, 2002, 0, 0, 0), 14, 0), ((357, .newarray .int, 2, 0, 0, 0, 40), 58, 0), ((359, .putfield 134, 3, 0, 73, 20, 85), 51, 0), ((362, .aload_n 0, 1, 0, 0, 0, 0), 5, 0), ((363, .sipush 2002, 3, 2002, 0, 0, 0), 14, 0), ((366, .newarray .long, 2, 10, 0, 0, 53), 58, 0)],
  [((368, .putfield 137, 3, 0, 74, 20, 86), 51, 0), ((371, .aload_n 0, 1, 0, 0, 0, 0), 5, 0), ((372, .sipush 2002, 3, 2002, 0, 0, 0), 14, 0), ((375, .newarray .int, 2, 0, 0, 0, 40), 58, 0), ((377, .putfield 140, 3, 0, 75, 20, 87), 51, 0), ((380, .aload_n 0, 1, 0, 0, 0, 0), 5, 0), ((381, .ldc 143, 2, 60060, 0, 0, 88), 58, 0), ((383, .newarray .int, 2, 0, 0, 0, 40), 58, 0)],
  [((385, .putfield 144, 3, 0, 76, 20, 89), 51, 0), ((388, .aload_n 0, 1, 0, 0, 0, 0), 5, 0), ((389, .sipush 3001, 3, 3001, 0, 0, 0), 14, 0), ((392, .newarray .int, 2, 0, 0, 0, 40), 58, 0), ((394, .putfield 147, 3, 0, 79, 20, 90), 51, 0), ((397, .aload_n 0, 1, 0, 0, 0, 0), 5, 0), ((398, .sipush 3001, 3, 3001, 0, 0, 0), 14, 0)],
  [((401, .newarray .long, 2, 10, 0, 0, 53), 58, 0), ((403, .putfield 150, 3, 0, 80, 20, 91), 51, 0), ((406, .aload_n 0, 1, 0, 0, 0, 0), 5, 0), ((407, .sipush 3001, 3, 3001, 0, 0, 0), 14, 0), ((410, .newarray .int, 2, 0, 0, 0, 40), 58, 0), ((412, .putfield 153, 3, 0, 81, 20, 92), 51, 0), ((415, .aload_n 0, 1, 0, 0, 0, 0), 5, 0)],
  [((416, .sipush 3001, 3, 3001, 0, 0, 0), 14, 0), ((419, .newarray .long, 2, 10, 0, 0, 53), 58, 0), ((421, .putfield 156, 3, 0, 82, 20, 93), 51, 0), ((424, .aload_n 0, 1, 0, 0, 0, 0), 5, 0), ((425, .sipush 3001, 3, 3001, 0, 0, 0), 14, 0), ((428, .newarray .int, 2, 0, 0, 0, 40), 58, 0), ((430, .putfield 159, 3, 0, 83, 20, 94), 51, 0)],
  [((433, .aload_n 0, 1, 0, 0, 0, 0), 5, 0), ((434, .sipush 3001, 3, 3001, 0, 0, 0), 14, 0), ((437, .newarray .int, 2, 0, 0, 0, 40), 58, 0), ((439, .putfield 162, 3, 0, 84, 20, 95), 51, 0), ((442, .aload_n 0, 1, 0, 0, 0, 0), 5, 0), ((443, .sipush 3001, 3, 3001, 0, 0, 0), 14, 0), ((446, .newarray .int, 2, 0, 0, 0, 40), 58, 0)],
  [((448, .putfield 165, 3, 0, 85, 20, 96), 51, 0), ((451, .aload_n 0, 1, 0, 0, 0, 0), 5, 0), ((452, .sipush 4096, 3, 4096, 0, 0, 0), 14, 0), ((455, .newarray .int, 2, 0, 0, 0, 40), 58, 0), ((457, .putfield 168, 3, 0, 86, 20, 97), 51, 0), ((460, .aload_n 0, 1, 0, 0, 0, 0), 5, 0), ((461, .sipush 3001, 3, 3001, 0, 0, 0), 14, 0)],
  [((464, .newarray .int, 2, 0, 0, 0, 40), 58, 0), ((466, .putfield 171, 3, 0, 87, 20, 98), 51, 0), ((469, .aload_n 0, 1, 0, 0, 0, 0), 5, 0), ((470, .ldc 174, 2, 95000, 0, 0, 99), 58, 0), ((472, .newarray .int, 2, 0, 0, 0, 40), 58, 0), ((474, .putfield 175, 3, 0, 92, 20, 100), 51, 0), ((477, .aload_n 0, 1, 0, 0, 0, 0), 5, 0), ((478, .ldc 174, 2, 95000, 0, 0, 99), 58, 0)],
  [((480, .newarray .long, 2, 10, 0, 0, 53), 58, 0), ((482, .putfield 178, 3, 0, 93, 20, 101), 51, 0), ((485, .aload_n 0, 1, 0, 0, 0, 0), 5, 0), ((486, .ldc 174, 2, 95000, 0, 0, 99), 58, 0), ((488, .newarray .boolean, 2, 2, 0, 0, 59), 58, 0), ((490, .putfield 181, 3, 0, 94, 20, 102), 51, 0), ((493, .aload_n 0, 1, 0, 0, 0, 0), 5, 0), ((494, .ldc 174, 2, 95000, 0, 0, 99), 58, 0)],
  [((496, .newarray .int, 2, 0, 0, 0, 40), 58, 0), ((498, .putfield 184, 3, 0, 95, 20, 103), 51, 0), ((501, .aload_n 0, 1, 0, 0, 0, 0), 5, 0), ((502, .bipush 26, 2, 26, 0, 0, 0), 13, 0), ((504, .newarray .int, 2, 0, 0, 0, 40), 58, 0), ((506, .putfield 187, 3, 0, 97, 20, 104), 51, 0), ((509, .aload_n 0, 1, 0, 0, 0, 0), 5, 0), ((510, .bipush 26, 2, 26, 0, 0, 0), 13, 0)],
  [((512, .newarray .int, 2, 0, 0, 0, 40), 58, 0), ((514, .putfield 190, 3, 0, 98, 20, 105), 51, 0), ((517, .aload_n 0, 1, 0, 0, 0, 0), 5, 0), ((518, .bipush 26, 2, 26, 0, 0, 0), 13, 0), ((520, .newarray .int, 2, 0, 0, 0, 40), 58, 0), ((522, .putfield 193, 3, 0, 99, 20, 106), 51, 0), ((525, .aload_n 0, 1, 0, 0, 0, 0), 5, 0), ((526, .bipush 26, 2, 26, 0, 0, 0), 13, 0)],
  [((528, .newarray .long, 2, 10, 0, 0, 53), 58, 0), ((530, .putfield 196, 3, 0, 100, 20, 107), 51, 0), ((533, .aload_n 0, 1, 0, 0, 0, 0), 5, 0), ((534, .bipush 26, 2, 26, 0, 0, 0), 13, 0), ((536, .newarray .int, 2, 0, 0, 0, 40), 58, 0), ((538, .putfield 199, 3, 0, 101, 20, 108), 51, 0), ((541, .aload_n 0, 1, 0, 0, 0, 0), 5, 0), ((542, .bipush 26, 2, 26, 0, 0, 0), 13, 0)],
  [((544, .newarray .int, 2, 0, 0, 0, 40), 58, 0), ((546, .putfield 202, 3, 0, 102, 20, 109), 51, 0), ((549, .aload_n 0, 1, 0, 0, 0, 0), 5, 0), ((550, .bipush 26, 2, 26, 0, 0, 0), 13, 0), ((552, .newarray .int, 2, 0, 0, 0, 40), 58, 0), ((554, .putfield 205, 3, 0, 103, 20, 110), 51, 0), ((557, .aload_n 0, 1, 0, 0, 0, 0), 5, 0), ((558, .bipush 26, 2, 26, 0, 0, 0), 13, 0)],
  [((560, .newarray .int, 2, 0, 0, 0, 40), 58, 0), ((562, .putfield 208, 3, 0, 104, 20, 111), 51, 0), ((565, .aload_n 0, 1, 0, 0, 0, 0), 5, 0), ((566, .bipush 26, 2, 26, 0, 0, 0), 13, 0), ((568, .newarray .int, 2, 0, 0, 0, 40), 58, 0), ((570, .putfield 211, 3, 0, 105, 20, 112), 51, 0), ((573, .aload_n 0, 1, 0, 0, 0, 0), 5, 0), ((574, .bipush 26, 2, 26, 0, 0, 0), 13, 0)],
  [((576, .newarray .int, 2, 0, 0, 0, 40), 58, 0), ((578, .putfield 214, 3, 0, 106, 20, 113), 51, 0), ((581, .aload_n 0, 1, 0, 0, 0, 0), 5, 0), ((582, .bipush 26, 2, 26, 0, 0, 0), 13, 0), ((584, .newarray .int, 2, 0, 0, 0, 40), 58, 0), ((586, .putfield 217, 3, 0, 107, 20, 114), 51, 0), ((589, .aload_n 0, 1, 0, 0, 0, 0), 5, 0), ((590, .bipush 26, 2, 26, 0, 0, 0), 13, 0)],
  [((592, .newarray .int, 2, 0, 0, 0, 40), 58, 0), ((594, .putfield 220, 3, 0, 108, 20, 115), 51, 0), ((597, .aload_n 0, 1, 0, 0, 0, 0), 5, 0), ((598, .bipush 26, 2, 26, 0, 0, 0), 13, 0), ((600, .newarray .int, 2, 0, 0, 0, 40), 58, 0), ((602, .putfield 223, 3, 0, 109, 20, 116), 51, 0), ((605, .aload_n 0, 1, 0, 0, 0, 0), 5, 0), ((606, .ldc 226, 2, 260000, 0, 0, 117), 58, 0)],
  [((608, .newarray .int, 2, 0, 0, 0, 40), 58, 0), ((610, .putfield 227, 3, 0, 112, 20, 118), 51, 0), ((613, .aload_n 0, 1, 0, 0, 0, 0), 5, 0), ((614, .ldc 226, 2, 260000, 0, 0, 117), 58, 0), ((616, .newarray .long, 2, 10, 0, 0, 53), 58, 0), ((618, .putfield 230, 3, 0, 113, 20, 119), 51, 0), ((621, .aload_n 0, 1, 0, 0, 0, 0), 5, 0), ((622, .ldc 233, 2, 52000, 0, 0, 120), 58, 0)],
  [((624, .newarray .int, 2, 0, 0, 0, 40), 58, 0), ((626, .putfield 234, 3, 0, 114, 20, 121), 51, 0), ((629, .aload_n 0, 1, 0, 0, 0, 0), 5, 0), ((630, .sipush 1248, 3, 1248, 0, 0, 0), 14, 0), ((633, .newarray .int, 2, 0, 0, 0, 40), 58, 0), ((635, .putfield 237, 3, 0, 115, 20, 122), 51, 0), ((638, .aload_n 0, 1, 0, 0, 0, 0), 5, 0), ((639, .sipush 1248, 3, 1248, 0, 0, 0), 14, 0)],
  [((642, .newarray .int, 2, 0, 0, 0, 40), 58, 0), ((644, .putfield 240, 3, 0, 116, 20, 123), 51, 0), ((647, .aload_n 0, 1, 0, 0, 0, 0), 5, 0), ((648, .sipush 1248, 3, 1248, 0, 0, 0), 14, 0), ((651, .newarray .int, 2, 0, 0, 0, 40), 58, 0), ((653, .putfield 243, 3, 0, 117, 20, 124), 51, 0)],
  [((656, .aload_n 0, 1, 0, 0, 0, 0), 5, 0), ((657, .sipush 1248, 3, 1248, 0, 0, 0), 14, 0), ((660, .newarray .int, 2, 0, 0, 0, 40), 58, 0), ((662, .putfield 246, 3, 0, 118, 20, 125), 51, 0), ((665, .aload_n 0, 1, 0, 0, 0, 0), 5, 0), ((666, .sipush 1248, 3, 1248, 0, 0, 0), 14, 0), ((669, .newarray .int, 2, 0, 0, 0, 40), 58, 0), ((671, .putfield 249, 3, 0, 119, 20, 126), 51, 0)],
  [((674, .aload_n 0, 1, 0, 0, 0, 0), 5, 0), ((675, .sipush 1248, 3, 1248, 0, 0, 0), 14, 0), ((678, .newarray .int, 2, 0, 0, 0, 40), 58, 0), ((680, .putfield 252, 3, 0, 120, 20, 127), 51, 0), ((683, .aload_n 0, 1, 0, 0, 0, 0), 5, 0), ((684, .sipush 1248, 3, 1248, 0, 0, 0), 14, 0), ((687, .newarray .int, 2, 0, 0, 0, 40), 58, 0)],
  [((689, .putfield 255, 3, 0, 121, 20, 128), 51, 0), ((692, .aload_n 0, 1, 0, 0, 0, 0), 5, 0), ((693, .sipush 1248, 3, 1248, 0, 0, 0), 14, 0), ((696, .newarray .int, 2, 0, 0, 0, 40), 58, 0), ((698, .putfield 258, 3, 0, 122, 20, 129), 51, 0), ((701, .aload_n 0, 1, 0, 0, 0, 0), 5, 0), ((702, .sipush 1248, 3, 1248, 0, 0, 0), 14, 0)],
  [((705, .newarray .int, 2, 0, 0, 0, 40), 58, 0), ((707, .putfield 261, 3, 0, 123, 20, 130), 51, 0), ((710, .aload_n 0, 1, 0, 0, 0, 0), 5, 0), ((711, .sipush 1248, 3, 1248, 0, 0, 0), 14, 0), ((714, .newarray .int, 2, 0, 0, 0, 40), 58, 0), ((716, .putfield 264, 3, 0, 124, 20, 131), 51, 0), ((719, .aload_n 0, 1, 0, 0, 0, 0), 5, 0)],
  [((720, .sipush 1248, 3, 1248, 0, 0, 0), 14, 0), ((723, .newarray .int, 2, 0, 0, 0, 40), 58, 0), ((725, .putfield 267, 3, 0, 125, 20, 132), 51, 0), ((728, .aload_n 0, 1, 0, 0, 0, 0), 5, 0), ((729, .sipush 1248, 3, 1248, 0, 0, 0), 14, 0), ((732, .newarray .int, 2, 0, 0, 0, 40), 58, 0), ((734, .putfield 270, 3, 0, 126, 20, 133), 51, 0)],
  [((737, .aload_n 0, 1, 0, 0, 0, 0), 5, 0), ((738, .sipush 1248, 3, 1248, 0, 0, 0), 14, 0), ((741, .newarray .int, 2, 0, 0, 0, 40), 58, 0), ((743, .putfield 273, 3, 0, 127, 20, 134), 51, 0), ((746, .aload_n 0, 1, 0, 0, 0, 0), 5, 0), ((747, .ldc_w 276, 3, 62400, 0, 0, 135), 58, 0), ((750, .newarray .int, 2, 0, 0, 0, 40), 58, 0)],
  [((752, .putfield 277, 3, 0, 128, 20, 136), 51, 0), ((755, .aload_n 0, 1, 0, 0, 0, 0), 5, 0), ((756, .sipush 128, 3, 128, 0, 0, 0), 14, 0), ((759, .newarray .int, 2, 0, 0, 0, 40), 58, 0), ((761, .putfield 280, 3, 0, 135, 20, 137), 51, 0), ((764, .aload_n 0, 1, 0, 0, 0, 0), 5, 0), ((765, .sipush 128, 3, 128, 0, 0, 0), 14, 0)],
  [((768, .newarray .long, 2, 10, 0, 0, 53), 58, 0), ((770, .putfield 283, 3, 0, 136, 20, 138), 51, 0), ((773, .aload_n 0, 1, 0, 0, 0, 0), 5, 0), ((774, .sipush 128, 3, 128, 0, 0, 0), 14, 0), ((777, .newarray .int, 2, 0, 0, 0, 40), 58, 0), ((779, .putfield 286, 3, 0, 138, 20, 139), 51, 0), ((782, .aload_n 0, 1, 0, 0, 0, 0), 5, 0), ((783, .sipush 128, 3, 128, 0, 0, 0), 14, 0)],
  [((786, .newarray .long, 2, 10, 0, 0, 53), 58, 0), ((788, .putfield 289, 3, 0, 139, 20, 140), 51, 0), ((791, .aload_n 0, 1, 0, 0, 0, 0), 5, 0), ((792, .sipush 128, 3, 128, 0, 0, 0), 14, 0), ((795, .newarray .int, 2, 0, 0, 0, 40), 58, 0), ((797, .putfield 292, 3, 0, 146, 20, 141), 51, 0)],
  [((800, .aload_n 0, 1, 0, 0, 0, 0), 5, 0), ((801, .sipush 128, 3, 128, 0, 0, 0), 14, 0), ((804, .newarray .long, 2, 10, 0, 0, 53), 58, 0), ((806, .putfield 295, 3, 0, 147, 20, 142), 51, 0), ((809, .aload_n 0, 1, 0, 0, 0, 0), 5, 0), ((810, .sipush 3000, 3, 3000, 0, 0, 0), 14, 0), ((813, .newarray .byte, 2, 1, 0, 0, 43), 58, 0), ((815, .putfield 298, 3, 0, 149, 20, 143), 51, 0)],
  [((818, .aload_n 0, 1, 0, 0, 0, 0), 5, 0), ((819, .sipush 4004, 3, 4004, 0, 0, 0), 14, 0), ((822, .newarray .int, 2, 0, 0, 0, 40), 58, 0), ((824, .putfield 301, 3, 0, 151, 20, 144), 51, 0), ((827, .aload_n 0, 1, 0, 0, 0, 0), 5, 0), ((828, .sipush 2002, 3, 2002, 0, 0, 0), 14, 0), ((831, .newarray .boolean, 2, 2, 0, 0, 59), 58, 0)],
  [((833, .putfield 304, 3, 0, 154, 20, 145), 51, 0), ((836, .aload_n 0, 1, 0, 0, 0, 0), 5, 0), ((837, .bipush 26, 2, 26, 0, 0, 0), 13, 0), ((839, .newarray .boolean, 2, 2, 0, 0, 59), 58, 0), ((841, .putfield 307, 3, 0, 155, 20, 146), 51, 0), ((844, .aload_n 0, 1, 0, 0, 0, 0), 5, 0), ((845, .sipush 2004, 3, 2004, 0, 0, 0), 14, 0)],
  [((848, .newarray .int, 2, 0, 0, 0, 40), 58, 0), ((850, .putfield 310, 3, 0, 156, 20, 147), 51, 0), ((853, .aload_n 0, 1, 0, 0, 0, 0), 5, 0), ((854, .sipush 2002, 3, 2002, 0, 0, 0), 14, 0), ((857, .newarray .int, 2, 0, 0, 0, 40), 58, 0), ((859, .putfield 313, 3, 0, 158, 20, 148), 51, 0), ((862, .aload_n 0, 1, 0, 0, 0, 0), 5, 0), ((863, .sipush 3001, 3, 3001, 0, 0, 0), 14, 0)],
  [((866, .newarray .int, 2, 0, 0, 0, 40), 58, 0), ((868, .putfield 316, 3, 0, 159, 20, 149), 51, 0), ((871, .iconst 0, 1, 0, 0, 0, 0), 12, 0), ((872, .istore_n 1, 1, 0, 0, 0, 0), 7, 1), ((873, .iload_n 1, 1, 0, 0, 0, 0), 1, 1), ((874, .sipush 1024, 3, 1024, 0, 0, 0), 14, 0), ((877, .if_icmp .ge 16, 3, 893, 0, 0, 0), 47, 0)],
  [((880, .aload_n 0, 1, 0, 0, 0, 0), 5, 0), ((881, .getfield 30, 3, 0, 13, 20, 49), 50, 0), ((884, .iload_n 1, 1, 0, 0, 0, 0), 1, 1), ((885, .iconst (-1), 1, 4294967295, 0, 0, 0), 12, 0), ((886, .iastore, 1, 0, 0, 0, 0), 53, 0), ((887, .iinc 1 1, 3, 1, 0, 0, 0), 36, 1), ((890, .goto (-17), 3, 873, 0, 0, 0), 37, 0), ((893, .aload_n 0, 1, 0, 0, 0, 0), 5, 0), ((894, .invokevirtual 319, 3, 17, 1, 0, 150), 56, 0)],
  [((897, .aload_n 0, 1, 0, 0, 0, 0), 5, 0), ((898, .aload_n 0, 1, 0, 0, 0, 0), 5, 0), ((899, .getfield 322, 3, 0, 14, 0, 151), 50, 0), ((902, .putfield 326, 3, 0, 65, 0, 152), 51, 0), ((905, .aload_n 0, 1, 0, 0, 0, 0), 5, 0), ((906, .aload_n 0, 1, 0, 0, 0, 0), 5, 0), ((907, .getfield 329, 3, 0, 8, 0, 153), 50, 0), ((910, .putfield 332, 3, 0, 66, 0, 154), 51, 0)],
  [((913, .return_, 1, 0, 0, 0, 0), 1000, 0)]])
def al_mX12_internBuilt : ev_MeK := (al_yX12_internBuilt, prog_14_method_8_code, 2, none, [[((0, .aload_n 0, 1, 0, 0, 0, 0), 5, 0), ((1, .ldc2_w 352, 3, 26845029215790456, 0, 0, 155), 58, 0), ((4, .lconst 0, 1, 0, 0, 0, 0), 15, 0), ((5, .iconst 0, 1, 0, 0, 0, 0), 12, 0), ((6, .invokevirtual 354, 3, 20, 4, 0, 156), 56, 0), ((9, .istore_n 1, 1, 0, 0, 0, 0), 7, 1), ((10, .aload_n 0, 1, 0, 0, 0, 0), 5, 0), ((11, .ldc2_w 358, 3, 6872332938464816740, 0, 0, 157), 58, 0), ((14, .ldc2_w 360, 3, 25976, 0, 0, 158), 58, 0)],
  [((17, .iconst 0, 1, 0, 0, 0, 0), 12, 0), ((18, .invokevirtual 354, 3, 20, 4, 0, 156), 56, 0), ((21, .istore_n 1, 1, 0, 0, 0, 0), 7, 1), ((22, .aload_n 0, 1, 0, 0, 0, 0), 5, 0), ((23, .ldc2_w 362, 3, 104863293860972, 0, 0, 159), 58, 0), ((26, .lconst 0, 1, 0, 0, 0, 0), 15, 0), ((27, .iconst 0, 1, 0, 0, 0, 0), 12, 0), ((28, .invokevirtual 354, 3, 20, 4, 0, 156), 56, 0), ((31, .istore_n 1, 1, 0, 0, 0, 0), 7, 1)],
  [((32, .aload_n 0, 1, 0, 0, 0, 0), 5, 0), ((33, .ldc2_w 364, 3, 409622111332, 0, 0, 160), 58, 0), ((36, .lconst 0, 1, 0, 0, 0, 0), 15, 0), ((37, .iconst 0, 1, 0, 0, 0, 0), 12, 0), ((38, .invokevirtual 354, 3, 20, 4, 0, 156), 56, 0), ((41, .istore_n 1, 1, 0, 0, 0, 0), 7, 1), ((42, .aload_n 0, 1, 0, 0, 0, 0), 5, 0), ((43, .ldc2_w 366, 3, 409623295330, 0, 0, 161), 58, 0), ((46, .lconst 0, 1, 0, 0, 0, 0), 15, 0), ((47, .iconst 0, 1, 0, 0, 0, 0), 12, 0)],
  [((48, .invokevirtual 354, 3, 20, 4, 0, 156), 56, 0), ((51, .istore_n 1, 1, 0, 0, 0, 0), 7, 1), ((52, .aload_n 0, 1, 0, 0, 0, 0), 5, 0), ((53, .ldc2_w 368, 3, 409622902124, 0, 0, 162), 58, 0), ((56, .lconst 0, 1, 0, 0, 0, 0), 15, 0), ((57, .iconst 0, 1, 0, 0, 0, 0), 12, 0), ((58, .invokevirtual 354, 3, 20, 4, 0, 156), 56, 0), ((61, .istore_n 1, 1, 0, 0, 0, 0), 7, 1), ((62, .aload_n 0, 1, 0, 0, 0, 0), 5, 0), ((63, .ldc2_w 370, 3, 104863394720118, 0, 0, 163), 58, 0)],
  [((66, .lconst 0, 1, 0, 0, 0, 0), 15, 0), ((67, .iconst 0, 1, 0, 0, 0, 0), 12, 0), ((68, .invokevirtual 354, 3, 20, 4, 0, 156), 56, 0), ((71, .istore_n 1, 1, 0, 0, 0, 0), 7, 1), ((72, .aload_n 0, 1, 0, 0, 0, 0), 5, 0), ((73, .ldc2_w 372, 3, 409622900580, 0, 0, 164), 58, 0), ((76, .lconst 0, 1, 0, 0, 0, 0), 15, 0), ((77, .iconst 0, 1, 0, 0, 0, 0), 12, 0), ((78, .invokevirtual 354, 3, 20, 4, 0, 156), 56, 0)],
  [((81, .istore_n 1, 1, 0, 0, 0, 0), 7, 1), ((82, .aload_n 0, 1, 0, 0, 0, 0), 5, 0), ((83, .ldc2_w 374, 3, 104863277084260, 0, 0, 165), 58, 0), ((86, .lconst 0, 1, 0, 0, 0, 0), 15, 0), ((87, .iconst 0, 1, 0, 0, 0, 0), 12, 0), ((88, .invokevirtual 354, 3, 20, 4, 0, 156), 56, 0), ((91, .istore_n 1, 1, 0, 0, 0, 0), 7, 1), ((92, .aload_n 0, 1, 0, 0, 0, 0), 5, 0), ((93, .ldc2_w 376, 3, 409622179698, 0, 0, 166), 58, 0)],
  [((96, .lconst 0, 1, 0, 0, 0, 0), 15, 0), ((97, .iconst 0, 1, 0, 0, 0, 0), 12, 0), ((98, .invokevirtual 354, 3, 20, 4, 0, 156), 56, 0), ((101, .istore_n 1, 1, 0, 0, 0, 0), 7, 1), ((102, .aload_n 0, 1, 0, 0, 0, 0), 5, 0), ((103, .ldc2_w 378, 3, 104863278591858, 0, 0, 167), 58, 0), ((106, .lconst 0, 1, 0, 0, 0, 0), 15, 0), ((107, .iconst 0, 1, 0, 0, 0, 0), 12, 0), ((108, .invokevirtual 354, 3, 20, 4, 0, 156), 56, 0), ((111, .istore_n 1, 1, 0, 0, 0, 0), 7, 1)],
  [((112, .aload_n 0, 1, 0, 0, 0, 0), 5, 0), ((113, .ldc2_w 380, 3, 409623292012, 0, 0, 168), 58, 0), ((116, .lconst 0, 1, 0, 0, 0, 0), 15, 0), ((117, .iconst 0, 1, 0, 0, 0, 0), 12, 0), ((118, .invokevirtual 354, 3, 20, 4, 0, 156), 56, 0), ((121, .istore_n 1, 1, 0, 0, 0, 0), 7, 1), ((122, .aload_n 0, 1, 0, 0, 0, 0), 5, 0), ((123, .ldc2_w 382, 3, 409623292018, 0, 0, 169), 58, 0), ((126, .lconst 0, 1, 0, 0, 0, 0), 15, 0), ((127, .iconst 0, 1, 0, 0, 0, 0), 12, 0)],
  [((128, .invokevirtual 354, 3, 20, 4, 0, 156), 56, 0), ((131, .istore_n 1, 1, 0, 0, 0, 0), 7, 1), ((132, .aload_n 0, 1, 0, 0, 0, 0), 5, 0), ((133, .ldc2_w 384, 3, 409623424621, 0, 0, 170), 58, 0), ((136, .lconst 0, 1, 0, 0, 0, 0), 15, 0), ((137, .iconst 0, 1, 0, 0, 0, 0), 12, 0), ((138, .invokevirtual 354, 3, 20, 4, 0, 156), 56, 0), ((141, .istore_n 1, 1, 0, 0, 0, 0), 7, 1), ((142, .aload_n 0, 1, 0, 0, 0, 0), 5, 0), ((143, .ldc2_w 386, 3, 104863277936500, 0, 0, 171), 58, 0)],
  [((146, .lconst 0, 1, 0, 0, 0, 0), 15, 0), ((147, .iconst 0, 1, 0, 0, 0, 0), 12, 0), ((148, .invokevirtual 354, 3, 20, 4, 0, 156), 56, 0), ((151, .istore_n 1, 1, 0, 0, 0, 0), 7, 1), ((152, .aload_n 0, 1, 0, 0, 0, 0), 5, 0), ((153, .ldc2_w 388, 3, 6872320886635192692, 0, 0, 172), 58, 0), ((156, .lconst 0, 1, 0, 0, 0, 0), 15, 0), ((157, .iconst 0, 1, 0, 0, 0, 0), 12, 0), ((158, .invokevirtual 354, 3, 20, 4, 0, 156), 56, 0)],
  [((161, .istore_n 1, 1, 0, 0, 0, 0), 7, 1), ((162, .aload_n 0, 1, 0, 0, 0, 0), 5, 0), ((163, .ldc2_w 390, 3, 409622832494, 0, 0, 173), 58, 0), ((166, .lconst 0, 1, 0, 0, 0, 0), 15, 0), ((167, .iconst 0, 1, 0, 0, 0, 0), 12, 0), ((168, .invokevirtual 354, 3, 20, 4, 0, 156), 56, 0), ((171, .istore_n 1, 1, 0, 0, 0, 0), 7, 1), ((172, .aload_n 0, 1, 0, 0, 0, 0), 5, 0), ((173, .ldc2_w 392, 3, 1600087409, 0, 0, 174), 58, 0)],
  [((176, .lconst 0, 1, 0, 0, 0, 0), 15, 0), ((177, .iconst 0, 1, 0, 0, 0, 0), 12, 0), ((178, .invokevirtual 354, 3, 20, 4, 0, 156), 56, 0), ((181, .istore_n 1, 1, 0, 0, 0, 0), 7, 1), ((182, .aload_n 0, 1, 0, 0, 0, 0), 5, 0), ((183, .ldc2_w 394, 3, 1600089204, 0, 0, 175), 58, 0), ((186, .lconst 0, 1, 0, 0, 0, 0), 15, 0), ((187, .iconst 0, 1, 0, 0, 0, 0), 12, 0), ((188, .invokevirtual 354, 3, 20, 4, 0, 156), 56, 0), ((191, .istore_n 1, 1, 0, 0, 0, 0), 7, 1)],
  [((192, .aload_n 0, 1, 0, 0, 0, 0), 5, 0), ((193, .ldc2_w 396, 3, 1600089189, 0, 0, 176), 58, 0), ((196, .lconst 0, 1, 0, 0, 0, 0), 15, 0), ((197, .iconst 0, 1, 0, 0, 0, 0), 12, 0), ((198, .invokevirtual 354, 3, 20, 4, 0, 156), 56, 0), ((201, .istore_n 1, 1, 0, 0, 0, 0), 7, 1), ((202, .aload_n 0, 1, 0, 0, 0, 0), 5, 0), ((203, .ldc2_w 398, 3, 1600087907, 0, 0, 177), 58, 0), ((206, .lconst 0, 1, 0, 0, 0, 0), 15, 0), ((207, .iconst 0, 1, 0, 0, 0, 0), 12, 0)],
  [((208, .invokevirtual 354, 3, 20, 4, 0, 156), 56, 0), ((211, .istore_n 1, 1, 0, 0, 0, 0), 7, 1), ((212, .aload_n 0, 1, 0, 0, 0, 0), 5, 0), ((213, .ldc2_w 400, 3, 104863462548581, 0, 0, 178), 58, 0), ((216, .lconst 0, 1, 0, 0, 0, 0), 15, 0), ((217, .iconst 0, 1, 0, 0, 0, 0), 12, 0), ((218, .invokevirtual 354, 3, 20, 4, 0, 156), 56, 0), ((221, .istore_n 1, 1, 0, 0, 0, 0), 7, 1), ((222, .aload_n 0, 1, 0, 0, 0, 0), 5, 0), ((223, .invokevirtual 402, 3, 18, 1, 0, 179), 56, 0)],
  [((226, .aload_n 0, 1, 0, 0, 0, 0), 5, 0), ((227, .invokevirtual 405, 3, 19, 1, 0, 180), 56, 0), ((230, .return_, 1, 0, 0, 0, 0), 1000, 0)]])
def al_mX12_internTypes : ev_MeK := (al_yX12_internTypes, prog_14_method_9_code, 2, none, [[((0, .aload_n 0, 1, 0, 0, 0, 0), 5, 0), ((1, .ldc2_w 408, 3, 7235948, 0, 0, 181), 58, 0), ((4, .lconst 0, 1, 0, 0, 0, 0), 15, 0), ((5, .iconst 0, 1, 0, 0, 0, 0), 12, 0), ((6, .invokevirtual 354, 3, 20, 4, 0, 156), 56, 0), ((9, .istore_n 1, 1, 0, 0, 0, 0), 7, 1), ((10, .aload_n 0, 1, 0, 0, 0, 0), 5, 0), ((11, .ldc2_w 410, 3, 27707072068280686, 0, 0, 182), 58, 0), ((14, .lconst 0, 1, 0, 0, 0, 0), 15, 0), ((15, .iconst 0, 1, 0, 0, 0, 0), 12, 0)],
  [((16, .invokevirtual 354, 3, 20, 4, 0, 156), 56, 0), ((19, .istore_n 1, 1, 0, 0, 0, 0), 7, 1), ((20, .aload_n 0, 1, 0, 0, 0, 0), 5, 0), ((21, .ldc2_w 412, 3, 121450625394034, 0, 0, 183), 58, 0), ((24, .lconst 0, 1, 0, 0, 0, 0), 15, 0), ((25, .iconst 0, 1, 0, 0, 0, 0), 12, 0), ((26, .invokevirtual 354, 3, 20, 4, 0, 156), 56, 0), ((29, .istore_n 1, 1, 0, 0, 0, 0), 7, 1), ((30, .aload_n 0, 1, 0, 0, 0, 0), 5, 0), ((31, .ldc2_w 414, 3, 126943972912743, 0, 0, 184), 58, 0)],
  [((34, .lconst 0, 1, 0, 0, 0, 0), 15, 0), ((35, .iconst 0, 1, 0, 0, 0, 0), 12, 0), ((36, .invokevirtual 354, 3, 20, 4, 0, 156), 56, 0), ((39, .istore_n 1, 1, 0, 0, 0, 0), 7, 1), ((40, .aload_n 0, 1, 0, 0, 0, 0), 5, 0), ((41, .ldc2_w 416, 3, 499850046565, 0, 0, 185), 58, 0), ((44, .lconst 0, 1, 0, 0, 0, 0), 15, 0), ((45, .iconst 0, 1, 0, 0, 0, 0), 12, 0), ((46, .invokevirtual 354, 3, 20, 4, 0, 156), 56, 0)],
  [((49, .istore_n 1, 1, 0, 0, 0, 0), 7, 1), ((50, .aload_n 0, 1, 0, 0, 0, 0), 5, 0), ((51, .ldc2_w 418, 3, 7382928537577680750, 0, 0, 186), 58, 0), ((54, .lconst 0, 1, 0, 0, 0, 0), 15, 0), ((55, .iconst 0, 1, 0, 0, 0, 0), 12, 0), ((56, .invokevirtual 354, 3, 20, 4, 0, 156), 56, 0), ((59, .istore_n 1, 1, 0, 0, 0, 0), 7, 1), ((60, .aload_n 0, 1, 0, 0, 0, 0), 5, 0), ((61, .ldc2_w 420, 3, 127991944667492, 0, 0, 187), 58, 0)],
  [((64, .lconst 0, 1, 0, 0, 0, 0), 15, 0), ((65, .iconst 0, 1, 0, 0, 0, 0), 12, 0), ((66, .invokevirtual 354, 3, 20, 4, 0, 156), 56, 0), ((69, .istore_n 1, 1, 0, 0, 0, 0), 7, 1), ((70, .aload_n 0, 1, 0, 0, 0, 0), 5, 0), ((71, .ldc2_w 422, 3, 7234935, 0, 0, 188), 58, 0), ((74, .lconst 0, 1, 0, 0, 0, 0), 15, 0), ((75, .iconst 1, 1, 1, 0, 0, 0), 12, 0), ((76, .invokevirtual 354, 3, 20, 4, 0, 156), 56, 0), ((79, .istore_n 1, 1, 0, 0, 0, 0), 7, 1)],
  [((80, .aload_n 0, 1, 0, 0, 0, 0), 5, 0), ((81, .ldc2_w 424, 3, 32497644298331492, 0, 0, 189), 58, 0), ((84, .lconst 0, 1, 0, 0, 0, 0), 15, 0), ((85, .iconst 0, 1, 0, 0, 0, 0), 12, 0), ((86, .invokevirtual 354, 3, 20, 4, 0, 156), 56, 0), ((89, .istore_n 1, 1, 0, 0, 0, 0), 7, 1), ((90, .aload_n 0, 1, 0, 0, 0, 0), 5, 0), ((91, .ldc2_w 426, 3, 32217264504270439, 0, 0, 190), 58, 0), ((94, .lconst 0, 1, 0, 0, 0, 0), 15, 0), ((95, .iconst 1, 1, 1, 0, 0, 0), 12, 0)],
  [((96, .invokevirtual 354, 3, 20, 4, 0, 156), 56, 0), ((99, .istore_n 1, 1, 0, 0, 0, 0), 7, 1), ((100, .aload_n 0, 1, 0, 0, 0, 0), 5, 0), ((101, .ldc2_w 428, 3, 121424940196204, 0, 0, 191), 58, 0), ((104, .lconst 0, 1, 0, 0, 0, 0), 15, 0), ((105, .iconst 0, 1, 0, 0, 0, 0), 12, 0), ((106, .invokevirtual 354, 3, 20, 4, 0, 156), 56, 0), ((109, .istore_n 1, 1, 0, 0, 0, 0), 7, 1), ((110, .aload_n 0, 1, 0, 0, 0, 0), 5, 0), ((111, .ldc2_w 430, 3, 1684365668, 0, 0, 192), 58, 0)],
  [((114, .lconst 0, 1, 0, 0, 0, 0), 15, 0), ((115, .iconst 0, 1, 0, 0, 0, 0), 12, 0), ((116, .invokevirtual 354, 3, 20, 4, 0, 156), 56, 0), ((119, .istore_n 1, 1, 0, 0, 0, 0), 7, 1), ((120, .aload_n 0, 1, 0, 0, 0, 0), 5, 0), ((121, .ldc2_w 432, 3, 7094703752064557426, 0, 0, 193), 58, 0), ((124, .ldc2_w 434, 3, 116, 0, 0, 194), 58, 0), ((127, .iconst 0, 1, 0, 0, 0, 0), 12, 0)],
  [((128, .invokevirtual 354, 3, 20, 4, 0, 156), 56, 0), ((131, .istore_n 1, 1, 0, 0, 0, 0), 7, 1), ((132, .aload_n 0, 1, 0, 0, 0, 0), 5, 0), ((133, .ldc2_w 436, 3, 7234295459109429618, 0, 0, 195), 58, 0), ((136, .ldc2_w 434, 3, 116, 0, 0, 194), 58, 0), ((139, .iconst 0, 1, 0, 0, 0, 0), 12, 0), ((140, .invokevirtual 354, 3, 20, 4, 0, 156), 56, 0), ((143, .istore_n 1, 1, 0, 0, 0, 0), 7, 1)],
  [((144, .aload_n 0, 1, 0, 0, 0, 0), 5, 0), ((145, .ldc2_w 438, 3, 110, 0, 0, 196), 58, 0), ((148, .lconst 0, 1, 0, 0, 0, 0), 15, 0), ((149, .iconst 1, 1, 1, 0, 0, 0), 12, 0), ((150, .invokevirtual 354, 3, 20, 4, 0, 156), 56, 0), ((153, .istore_n 1, 1, 0, 0, 0, 0), 7, 1), ((154, .return_, 1, 0, 0, 0, 0), 1000, 0)]])
def al_mX12_internNames : ev_MeK := (al_yX12_internNames, prog_14_method_10_code, 2, none, [[((0, .aload_n 0, 1, 0, 0, 0, 0), 5, 0), ((1, .ldc2_w 440, 3, 482955849332, 0, 0, 197), 58, 0), ((4, .lconst 0, 1, 0, 0, 0, 0), 15, 0), ((5, .iconst 1, 1, 1, 0, 0, 0), 12, 0), ((6, .invokevirtual 354, 3, 20, 4, 0, 156), 56, 0), ((9, .istore_n 1, 1, 0, 0, 0, 0), 7, 1), ((10, .aload_n 0, 1, 0, 0, 0, 0), 5, 0), ((11, .ldc2_w 442, 3, 1954115685, 0, 0, 198), 58, 0), ((14, .lconst 0, 1, 0, 0, 0, 0), 15, 0), ((15, .iconst 1, 1, 1, 0, 0, 0), 12, 0)],
  [((16, .invokevirtual 354, 3, 20, 4, 0, 156), 56, 0), ((19, .istore_n 1, 1, 0, 0, 0, 0), 7, 1), ((20, .aload_n 0, 1, 0, 0, 0, 0), 5, 0), ((21, .ldc2_w 444, 3, 8390051574787436135, 0, 0, 199), 58, 0), ((24, .lconst 0, 1, 0, 0, 0, 0), 15, 0), ((25, .iconst 1, 1, 1, 0, 0, 0), 12, 0), ((26, .invokevirtual 354, 3, 20, 4, 0, 156), 56, 0), ((29, .istore_n 1, 1, 0, 0, 0, 0), 7, 1), ((30, .aload_n 0, 1, 0, 0, 0, 0), 5, 0), ((31, .ldc2_w 446, 3, 8390046081439917426, 0, 0, 200), 58, 0)],
  [((34, .lconst 0, 1, 0, 0, 0, 0), 15, 0), ((35, .iconst 1, 1, 1, 0, 0, 0), 12, 0), ((36, .invokevirtual 354, 3, 20, 4, 0, 156), 56, 0), ((39, .istore_n 1, 1, 0, 0, 0, 0), 7, 1), ((40, .aload_n 0, 1, 0, 0, 0, 0), 5, 0), ((41, .ldc2_w 448, 3, 1852143732, 0, 0, 201), 58, 0), ((44, .lconst 0, 1, 0, 0, 0, 0), 15, 0), ((45, .iconst 1, 1, 1, 0, 0, 0), 12, 0), ((46, .invokevirtual 354, 3, 20, 4, 0, 156), 56, 0)],
  [((49, .istore_n 1, 1, 0, 0, 0, 0), 7, 1), ((50, .aload_n 0, 1, 0, 0, 0, 0), 5, 0), ((51, .ldc2_w 450, 3, 482670637683, 0, 0, 202), 58, 0), ((54, .lconst 0, 1, 0, 0, 0, 0), 15, 0), ((55, .iconst 1, 1, 1, 0, 0, 0), 12, 0), ((56, .invokevirtual 354, 3, 20, 4, 0, 156), 56, 0), ((59, .istore_n 1, 1, 0, 0, 0, 0), 7, 1), ((60, .aload_n 0, 1, 0, 0, 0, 0), 5, 0), ((61, .ldc2_w 452, 3, 115931391554163, 0, 0, 203), 58, 0)],
  [((64, .lconst 0, 1, 0, 0, 0, 0), 15, 0), ((65, .iconst 1, 1, 1, 0, 0, 0), 12, 0), ((66, .invokevirtual 354, 3, 20, 4, 0, 156), 56, 0), ((69, .istore_n 1, 1, 0, 0, 0, 0), 7, 1), ((70, .aload_n 0, 1, 0, 0, 0, 0), 5, 0), ((71, .ldc2_w 454, 3, 125762940659060, 0, 0, 204), 58, 0), ((74, .lconst 0, 1, 0, 0, 0, 0), 15, 0), ((75, .iconst 1, 1, 1, 0, 0, 0), 12, 0), ((76, .invokevirtual 354, 3, 20, 4, 0, 156), 56, 0), ((79, .istore_n 1, 1, 0, 0, 0, 0), 7, 1)],
  [((80, .aload_n 0, 1, 0, 0, 0, 0), 5, 0), ((81, .ldc2_w 456, 3, 125762941445492, 0, 0, 205), 58, 0), ((84, .lconst 0, 1, 0, 0, 0, 0), 15, 0), ((85, .iconst 1, 1, 1, 0, 0, 0), 12, 0), ((86, .invokevirtual 354, 3, 20, 4, 0, 156), 56, 0), ((89, .istore_n 1, 1, 0, 0, 0, 0), 7, 1), ((90, .aload_n 0, 1, 0, 0, 0, 0), 5, 0), ((91, .ldc2_w 458, 3, 8242000070643638636, 0, 0, 206), 58, 0), ((94, .lconst 0, 1, 0, 0, 0, 0), 15, 0), ((95, .iconst 1, 1, 1, 0, 0, 0), 12, 0)],
  [((96, .invokevirtual 354, 3, 20, 4, 0, 156), 56, 0), ((99, .istore_n 1, 1, 0, 0, 0, 0), 7, 1), ((100, .aload_n 0, 1, 0, 0, 0, 0), 5, 0), ((101, .ldc2_w 460, 3, 125762940986734, 0, 0, 207), 58, 0), ((104, .lconst 0, 1, 0, 0, 0, 0), 15, 0), ((105, .iconst 1, 1, 1, 0, 0, 0), 12, 0), ((106, .invokevirtual 354, 3, 20, 4, 0, 156), 56, 0), ((109, .istore_n 1, 1, 0, 0, 0, 0), 7, 1), ((110, .aload_n 0, 1, 0, 0, 0, 0), 5, 0), ((111, .ldc2_w 462, 3, 7450489171756736884, 0, 0, 208), 58, 0)],
  [((114, .ldc2_w 464, 3, 1633840229, 0, 0, 209), 58, 0), ((117, .iconst 1, 1, 1, 0, 0, 0), 12, 0), ((118, .invokevirtual 354, 3, 20, 4, 0, 156), 56, 0), ((121, .istore_n 1, 1, 0, 0, 0, 0), 7, 1), ((122, .aload_n 0, 1, 0, 0, 0, 0), 5, 0), ((123, .ldc2_w 466, 3, 8315180300211872116, 0, 0, 210), 58, 0), ((126, .ldc2_w 464, 3, 1633840229, 0, 0, 209), 58, 0)],
  [((129, .iconst 1, 1, 1, 0, 0, 0), 12, 0), ((130, .invokevirtual 354, 3, 20, 4, 0, 156), 56, 0), ((133, .istore_n 1, 1, 0, 0, 0, 0), 7, 1), ((134, .aload_n 0, 1, 0, 0, 0, 0), 5, 0), ((135, .ldc2_w 468, 3, 435711799154, 0, 0, 211), 58, 0), ((138, .lconst 0, 1, 0, 0, 0, 0), 15, 0), ((139, .iconst 1, 1, 1, 0, 0, 0), 12, 0), ((140, .invokevirtual 354, 3, 20, 4, 0, 156), 56, 0), ((143, .istore_n 1, 1, 0, 0, 0, 0), 7, 1)],
  [((144, .aload_n 0, 1, 0, 0, 0, 0), 5, 0), ((145, .ldc2_w 470, 3, 482703666284, 0, 0, 212), 58, 0), ((148, .lconst 0, 1, 0, 0, 0, 0), 15, 0), ((149, .iconst 1, 1, 1, 0, 0, 0), 12, 0), ((150, .invokevirtual 354, 3, 20, 4, 0, 156), 56, 0), ((153, .istore_n 1, 1, 0, 0, 0, 0), 7, 1), ((154, .aload_n 0, 1, 0, 0, 0, 0), 5, 0), ((155, .ldc2_w 472, 3, 126879447475060, 0, 0, 213), 58, 0), ((158, .lconst 0, 1, 0, 0, 0, 0), 15, 0), ((159, .iconst 1, 1, 1, 0, 0, 0), 12, 0)],
  [((160, .invokevirtual 354, 3, 20, 4, 0, 156), 56, 0), ((163, .istore_n 1, 1, 0, 0, 0, 0), 7, 1), ((164, .aload_n 0, 1, 0, 0, 0, 0), 5, 0), ((165, .ldc2_w 474, 3, 27988534160089972, 0, 0, 214), 58, 0), ((168, .lconst 0, 1, 0, 0, 0, 0), 15, 0), ((169, .iconst 1, 1, 1, 0, 0, 0), 12, 0), ((170, .invokevirtual 354, 3, 20, 4, 0, 156), 56, 0), ((173, .istore_n 1, 1, 0, 0, 0, 0), 7, 1), ((174, .aload_n 0, 1, 0, 0, 0, 0), 5, 0), ((175, .ldc2_w 476, 3, 1818850164, 0, 0, 215), 58, 0)],
  [((178, .lconst 0, 1, 0, 0, 0, 0), 15, 0), ((179, .iconst 1, 1, 1, 0, 0, 0), 12, 0), ((180, .invokevirtual 354, 3, 20, 4, 0, 156), 56, 0), ((183, .istore_n 1, 1, 0, 0, 0, 0), 7, 1), ((184, .aload_n 0, 1, 0, 0, 0, 0), 5, 0), ((185, .ldc2_w 478, 3, 1952807028, 0, 0, 216), 58, 0), ((188, .lconst 0, 1, 0, 0, 0, 0), 15, 0), ((189, .iconst 1, 1, 1, 0, 0, 0), 12, 0), ((190, .invokevirtual 354, 3, 20, 4, 0, 156), 56, 0)],
  [((193, .istore_n 1, 1, 0, 0, 0, 0), 7, 1), ((194, .aload_n 0, 1, 0, 0, 0, 0), 5, 0), ((195, .ldc2_w 480, 3, 1885434484, 0, 0, 217), 58, 0), ((198, .lconst 0, 1, 0, 0, 0, 0), 15, 0), ((199, .iconst 1, 1, 1, 0, 0, 0), 12, 0), ((200, .invokevirtual 354, 3, 20, 4, 0, 156), 56, 0), ((203, .istore_n 1, 1, 0, 0, 0, 0), 7, 1), ((204, .aload_n 0, 1, 0, 0, 0, 0), 5, 0), ((205, .ldc2_w 482, 3, 115923103347316, 0, 0, 218), 58, 0)],
  [((208, .lconst 0, 1, 0, 0, 0, 0), 15, 0), ((209, .iconst 1, 1, 1, 0, 0, 0), 12, 0), ((210, .invokevirtual 354, 3, 20, 4, 0, 156), 56, 0), ((213, .istore_n 1, 1, 0, 0, 0, 0), 7, 1), ((214, .aload_n 0, 1, 0, 0, 0, 0), 5, 0), ((215, .ldc2_w 484, 3, 125779953284709, 0, 0, 219), 58, 0), ((218, .lconst 0, 1, 0, 0, 0, 0), 15, 0), ((219, .iconst 1, 1, 1, 0, 0, 0), 12, 0), ((220, .invokevirtual 354, 3, 20, 4, 0, 156), 56, 0), ((223, .istore_n 1, 1, 0, 0, 0, 0), 7, 1)],
  [((224, .aload_n 0, 1, 0, 0, 0, 0), 5, 0), ((225, .ldc2_w 486, 3, 109330244526452, 0, 0, 220), 58, 0), ((228, .lconst 0, 1, 0, 0, 0, 0), 15, 0), ((229, .iconst 1, 1, 1, 0, 0, 0), 12, 0), ((230, .invokevirtual 354, 3, 20, 4, 0, 156), 56, 0), ((233, .istore_n 1, 1, 0, 0, 0, 0), 7, 1), ((234, .aload_n 0, 1, 0, 0, 0, 0), 5, 0), ((235, .ldc2_w 488, 3, 1885430635, 0, 0, 221), 58, 0), ((238, .lconst 0, 1, 0, 0, 0, 0), 15, 0), ((239, .iconst 1, 1, 1, 0, 0, 0), 12, 0)],
  [((240, .invokevirtual 354, 3, 20, 4, 0, 156), 56, 0), ((243, .istore_n 1, 1, 0, 0, 0, 0), 7, 1), ((244, .aload_n 0, 1, 0, 0, 0, 0), 5, 0), ((245, .ldc2_w 490, 3, 129117192282987, 0, 0, 222), 58, 0), ((248, .lconst 0, 1, 0, 0, 0, 0), 15, 0), ((249, .iconst 1, 1, 1, 0, 0, 0), 12, 0), ((250, .invokevirtual 354, 3, 20, 4, 0, 156), 56, 0), ((253, .istore_n 1, 1, 0, 0, 0, 0), 7, 1), ((254, .aload_n 0, 1, 0, 0, 0, 0), 5, 0), ((255, .ldc2_w 492, 3, 7566690, 0, 0, 223), 58, 0)],
  [((258, .lconst 0, 1, 0, 0, 0, 0), 15, 0), ((259, .iconst 1, 1, 1, 0, 0, 0), 12, 0), ((260, .invokevirtual 354, 3, 20, 4, 0, 156), 56, 0), ((263, .istore_n 1, 1, 0, 0, 0, 0), 7, 1), ((264, .aload_n 0, 1, 0, 0, 0, 0), 5, 0), ((265, .ldc2_w 494, 3, 1652126821, 0, 0, 224), 58, 0), ((268, .lconst 0, 1, 0, 0, 0, 0), 15, 0), ((269, .iconst 1, 1, 1, 0, 0, 0), 12, 0), ((270, .invokevirtual 354, 3, 20, 4, 0, 156), 56, 0)],
  [((273, .istore_n 1, 1, 0, 0, 0, 0), 7, 1), ((274, .aload_n 0, 1, 0, 0, 0, 0), 5, 0), ((275, .ldc2_w 496, 3, 1667785074, 0, 0, 225), 58, 0), ((278, .lconst 0, 1, 0, 0, 0, 0), 15, 0), ((279, .iconst 1, 1, 1, 0, 0, 0), 12, 0), ((280, .invokevirtual 354, 3, 20, 4, 0, 156), 56, 0), ((283, .istore_n 1, 1, 0, 0, 0, 0), 7, 1), ((284, .aload_n 0, 1, 0, 0, 0, 0), 5, 0), ((285, .ldc2_w 498, 3, 7497072, 0, 0, 226), 58, 0)],
  [((288, .lconst 0, 1, 0, 0, 0, 0), 15, 0), ((289, .iconst 1, 1, 1, 0, 0, 0), 12, 0), ((290, .invokevirtual 354, 3, 20, 4, 0, 156), 56, 0), ((293, .istore_n 1, 1, 0, 0, 0, 0), 7, 1), ((294, .aload_n 0, 1, 0, 0, 0, 0), 5, 0), ((295, .ldc2_w 500, 3, 26479, 0, 0, 227), 58, 0), ((298, .lconst 0, 1, 0, 0, 0, 0), 15, 0), ((299, .iconst 1, 1, 1, 0, 0, 0), 12, 0), ((300, .invokevirtual 354, 3, 20, 4, 0, 156), 56, 0), ((303, .istore_n 1, 1, 0, 0, 0, 0), 7, 1)],
  [((304, .aload_n 0, 1, 0, 0, 0, 0), 5, 0), ((305, .ldc2_w 502, 3, 1937010544, 0, 0, 228), 58, 0), ((308, .lconst 0, 1, 0, 0, 0, 0), 15, 0), ((309, .iconst 1, 1, 1, 0, 0, 0), 12, 0), ((310, .invokevirtual 354, 3, 20, 4, 0, 156), 56, 0), ((313, .istore_n 1, 1, 0, 0, 0, 0), 7, 1), ((314, .aload_n 0, 1, 0, 0, 0, 0), 5, 0), ((315, .ldc2_w 504, 3, 495873782885, 0, 0, 229), 58, 0), ((318, .lconst 0, 1, 0, 0, 0, 0), 15, 0), ((319, .iconst 1, 1, 1, 0, 0, 0), 12, 0)],
  [((320, .invokevirtual 354, 3, 20, 4, 0, 156), 56, 0), ((323, .istore_n 1, 1, 0, 0, 0, 0), 7, 1), ((324, .return_, 1, 0, 0, 0, 0), 1000, 0)]])
def al_mX12_hidden : ev_MeK := (al_yX12_hidden, prog_14_method_7_code, 6, (some .int), [[((0, .aload_n 0, 1, 0, 0, 0, 0), 5, 0), ((1, .iconst 0, 1, 0, 0, 0, 0), 12, 0), ((2, .putfield 338, 3, 0, 20, 0, 230), 51, 0), ((5, .aload_n 0, 1, 0, 0, 0, 0), 5, 0), ((6, .lload_n 1, 1, 0, 0, 0, 0), 3, 1), ((7, .invokevirtual 345, 3, 21, 2, 0, 231), 56, 0), ((10, .aload_n 0, 1, 0, 0, 0, 0), 5, 0), ((11, .lload_n 3, 1, 0, 0, 0, 0), 3, 3), ((12, .invokevirtual 345, 3, 21, 2, 0, 231), 56, 0), ((15, .aload_n 0, 1, 0, 0, 0, 0), 5, 0)],
  [((16, .iload 5, 2, 0, 0, 0, 0), 0, 5), ((18, .invokevirtual 349, 3, 22, 2, 0, 232), 56, 0), ((21, .ireturn, 1, 0, 0, 0, 0), 1000, 0)]])
def al_mX12_word : ev_MeK := (al_yX12_word, prog_14_method_6_code, 5, none, [[((0, .bipush 56, 2, 56, 0, 0, 0), 13, 0), ((2, .istore_n 3, 1, 0, 0, 0, 0), 7, 3), ((3, .iload_n 3, 1, 0, 0, 0, 0), 1, 3), ((4, .ifCond .lt 46, 3, 50, 0, 0, 0), 40, 0), ((7, .lload_n 1, 1, 0, 0, 0, 0), 3, 1), ((8, .iload_n 3, 1, 0, 0, 0, 0), 1, 3), ((9, .lushr, 1, 0, 0, 0, 0), 34, 0), ((10, .l2i, 1, 0, 0, 0, 0), 33, 0), ((11, .sipush 255, 3, 255, 0, 0, 0), 14, 0), ((14, .iand, 1, 0, 0, 0, 0), 19, 0), ((15, .istore 4, 2, 0, 0, 0, 0), 6, 4)],
  [((17, .iload 4, 2, 0, 0, 0, 0), 0, 4), ((19, .ifCond .le 25, 3, 44, 0, 0, 0), 43, 0), ((22, .aload_n 0, 1, 0, 0, 0, 0), 5, 0), ((23, .getfield 33, 3, 0, 19, 20, 50), 50, 0), ((26, .aload_n 0, 1, 0, 0, 0, 0), 5, 0), ((27, .getfield 338, 3, 0, 20, 0, 230), 50, 0), ((30, .iload 4, 2, 0, 0, 0, 0), 0, 4)],
  [((32, .i2b, 1, 0, 0, 0, 0), 24, 0), ((33, .bastore, 1, 0, 0, 0, 0), 55, 0), ((34, .aload_n 0, 1, 0, 0, 0, 0), 5, 0), ((35, .dup, 1, 0, 0, 0, 0), 35, 0), ((36, .getfield 338, 3, 0, 20, 0, 230), 50, 0), ((39, .iconst 1, 1, 1, 0, 0, 0), 12, 0), ((40, .iadd, 1, 0, 0, 0, 0), 16, 0), ((41, .putfield 338, 3, 0, 20, 0, 230), 51, 0), ((44, .iinc 3 (-8), 3, 4294967288, 0, 0, 0), 36, 3), ((47, .goto (-44), 3, 3, 0, 0, 0), 37, 0)],
  [((50, .return_, 1, 0, 0, 0, 0), 1000, 0)]])
def al_mX12_intern : ev_MeK := (al_yX12_intern, prog_14_method_4_code, 6, (some .int), [[((0, .aload_n 0, 1, 0, 0, 0, 0), 5, 0), ((1, .aload_n 0, 1, 0, 0, 0, 0), 5, 0), ((2, .getfield 338, 3, 0, 20, 0, 230), 50, 0), ((5, .invokevirtual 341, 3, 23, 2, 0, 233), 56, 0), ((8, .istore_n 2, 1, 0, 0, 0, 0), 7, 2), ((9, .aload_n 0, 1, 0, 0, 0, 0), 5, 0), ((10, .getfield 30, 3, 0, 13, 20, 49), 50, 0), ((13, .iload_n 2, 1, 0, 0, 0, 0), 1, 2), ((14, .iaload, 1, 0, 0, 0, 0), 52, 0), ((15, .istore_n 3, 1, 0, 0, 0, 0), 7, 3)],
  [((16, .iload_n 3, 1, 0, 0, 0, 0), 1, 3), ((17, .ifCond .lt 115, 3, 132, 0, 0, 0), 40, 0), ((20, .aload_n 0, 1, 0, 0, 0, 0), 5, 0), ((21, .getfield 21, 3, 0, 10, 20, 46), 50, 0), ((24, .iload_n 3, 1, 0, 0, 0, 0), 1, 3), ((25, .iaload, 1, 0, 0, 0, 0), 52, 0), ((26, .aload_n 0, 1, 0, 0, 0, 0), 5, 0), ((27, .getfield 338, 3, 0, 20, 0, 230), 50, 0), ((30, .if_icmp .ne 7, 3, 37, 0, 0, 0), 45, 0)],
  [((33, .iconst 1, 1, 1, 0, 0, 0), 12, 0), ((34, .goto 4, 3, 38, 0, 0, 0), 37, 0), ((37, .iconst 0, 1, 0, 0, 0, 0), 12, 0), ((38, .istore 4, 2, 0, 0, 0, 0), 6, 4), ((40, .iconst 0, 1, 0, 0, 0, 0), 12, 0), ((41, .istore 5, 2, 0, 0, 0, 0), 6, 5), ((43, .iload 5, 2, 0, 0, 0, 0), 0, 5), ((45, .aload_n 0, 1, 0, 0, 0, 0), 5, 0), ((46, .getfield 338, 3, 0, 20, 0, 230), 50, 0)],
  [((49, .if_icmp .ge 45, 3, 94, 0, 0, 0), 47, 0), ((52, .iload 4, 2, 0, 0, 0, 0), 0, 4), ((54, .ifCond .eq 40, 3, 94, 0, 0, 0), 38, 0), ((57, .aload_n 0, 1, 0, 0, 0, 0), 5, 0), ((58, .getfield 14, 3, 0, 7, 20, 44), 50, 0), ((61, .aload_n 0, 1, 0, 0, 0, 0), 5, 0), ((62, .getfield 18, 3, 0, 9, 20, 45), 50, 0)],
  [((65, .iload_n 3, 1, 0, 0, 0, 0), 1, 3), ((66, .iaload, 1, 0, 0, 0, 0), 52, 0), ((67, .iload 5, 2, 0, 0, 0, 0), 0, 5), ((69, .iadd, 1, 0, 0, 0, 0), 16, 0), ((70, .baload, 1, 0, 0, 0, 0), 54, 0), ((71, .aload_n 0, 1, 0, 0, 0, 0), 5, 0), ((72, .getfield 33, 3, 0, 19, 20, 50), 50, 0), ((75, .iload 5, 2, 0, 0, 0, 0), 0, 5), ((77, .baload, 1, 0, 0, 0, 0), 54, 0), ((78, .if_icmp .ne 7, 3, 85, 0, 0, 0), 45, 0)],
  [((81, .iconst 1, 1, 1, 0, 0, 0), 12, 0), ((82, .goto 4, 3, 86, 0, 0, 0), 37, 0), ((85, .iconst 0, 1, 0, 0, 0, 0), 12, 0), ((86, .istore 4, 2, 0, 0, 0, 0), 6, 4), ((88, .iinc 5 1, 3, 1, 0, 0, 0), 36, 5), ((91, .goto (-48), 3, 43, 0, 0, 0), 37, 0), ((94, .iload 4, 2, 0, 0, 0, 0), 0, 4)],
  [((96, .ifCond .eq 26, 3, 122, 0, 0, 0), 38, 0), ((99, .aload_n 0, 1, 0, 0, 0, 0), 5, 0), ((100, .getfield 24, 3, 0, 11, 20, 47), 50, 0), ((103, .iload_n 3, 1, 0, 0, 0, 0), 1, 3), ((104, .iload_n 1, 1, 0, 0, 0, 0), 1, 1), ((105, .iconst 1, 1, 1, 0, 0, 0), 12, 0), ((106, .if_icmp .ne 7, 3, 113, 0, 0, 0), 45, 0), ((109, .iconst 1, 1, 1, 0, 0, 0), 12, 0), ((110, .goto 9, 3, 119, 0, 0, 0), 37, 0)],
  [((113, .aload_n 0, 1, 0, 0, 0, 0), 5, 0), ((114, .getfield 24, 3, 0, 11, 20, 47), 50, 0), ((117, .iload_n 3, 1, 0, 0, 0, 0), 1, 3), ((118, .iaload, 1, 0, 0, 0, 0), 52, 0), ((119, .iastore, 1, 0, 0, 0, 0), 53, 0), ((120, .iload_n 3, 1, 0, 0, 0, 0), 1, 3), ((121, .ireturn, 1, 0, 0, 0, 0), 1000, 0), ((122, .aload_n 0, 1, 0, 0, 0, 0), 5, 0), ((123, .getfield 27, 3, 0, 12, 20, 48), 50, 0), ((126, .iload_n 3, 1, 0, 0, 0, 0), 1, 3), ((127, .iaload, 1, 0, 0, 0, 0), 52, 0)],
  [((128, .istore_n 3, 1, 0, 0, 0, 0), 7, 3), ((129, .goto (-113), 3, 16, 0, 0, 0), 37, 0), ((132, .aload_n 0, 1, 0, 0, 0, 0), 5, 0), ((133, .getfield 322, 3, 0, 14, 0, 151), 50, 0), ((136, .istore_n 3, 1, 0, 0, 0, 0), 7, 3), ((137, .aload_n 0, 1, 0, 0, 0, 0), 5, 0), ((138, .dup, 1, 0, 0, 0, 0), 35, 0), ((139, .getfield 322, 3, 0, 14, 0, 151), 50, 0), ((142, .iconst 1, 1, 1, 0, 0, 0), 12, 0), ((143, .iadd, 1, 0, 0, 0, 0), 16, 0)],
  [((144, .putfield 322, 3, 0, 14, 0, 151), 51, 0), ((147, .aload_n 0, 1, 0, 0, 0, 0), 5, 0), ((148, .getfield 18, 3, 0, 9, 20, 45), 50, 0), ((151, .iload_n 3, 1, 0, 0, 0, 0), 1, 3), ((152, .aload_n 0, 1, 0, 0, 0, 0), 5, 0), ((153, .getfield 329, 3, 0, 8, 0, 153), 50, 0), ((156, .iastore, 1, 0, 0, 0, 0), 53, 0), ((157, .aload_n 0, 1, 0, 0, 0, 0), 5, 0), ((158, .getfield 21, 3, 0, 10, 20, 46), 50, 0)],
  [((161, .iload_n 3, 1, 0, 0, 0, 0), 1, 3), ((162, .aload_n 0, 1, 0, 0, 0, 0), 5, 0), ((163, .getfield 338, 3, 0, 20, 0, 230), 50, 0), ((166, .iastore, 1, 0, 0, 0, 0), 53, 0), ((167, .aload_n 0, 1, 0, 0, 0, 0), 5, 0), ((168, .getfield 24, 3, 0, 11, 20, 47), 50, 0), ((171, .iload_n 3, 1, 0, 0, 0, 0), 1, 3), ((172, .iload_n 1, 1, 0, 0, 0, 0), 1, 1), ((173, .iastore, 1, 0, 0, 0, 0), 53, 0), ((174, .aload_n 0, 1, 0, 0, 0, 0), 5, 0), ((175, .getfield 27, 3, 0, 12, 20, 48), 50, 0)],
  [((178, .iload_n 3, 1, 0, 0, 0, 0), 1, 3), ((179, .aload_n 0, 1, 0, 0, 0, 0), 5, 0), ((180, .getfield 30, 3, 0, 13, 20, 49), 50, 0), ((183, .iload_n 2, 1, 0, 0, 0, 0), 1, 2), ((184, .iaload, 1, 0, 0, 0, 0), 52, 0), ((185, .iastore, 1, 0, 0, 0, 0), 53, 0), ((186, .aload_n 0, 1, 0, 0, 0, 0), 5, 0), ((187, .getfield 30, 3, 0, 13, 20, 49), 50, 0), ((190, .iload_n 2, 1, 0, 0, 0, 0), 1, 2), ((191, .iload_n 3, 1, 0, 0, 0, 0), 1, 3)],
  [((192, .iastore, 1, 0, 0, 0, 0), 53, 0), ((193, .iconst 0, 1, 0, 0, 0, 0), 12, 0), ((194, .istore 4, 2, 0, 0, 0, 0), 6, 4), ((196, .iload 4, 2, 0, 0, 0, 0), 0, 4), ((198, .aload_n 0, 1, 0, 0, 0, 0), 5, 0), ((199, .getfield 338, 3, 0, 20, 0, 230), 50, 0), ((202, .if_icmp .ge 28, 3, 230, 0, 0, 0), 47, 0), ((205, .aload_n 0, 1, 0, 0, 0, 0), 5, 0), ((206, .getfield 14, 3, 0, 7, 20, 44), 50, 0)],
  [((209, .aload_n 0, 1, 0, 0, 0, 0), 5, 0), ((210, .getfield 329, 3, 0, 8, 0, 153), 50, 0), ((213, .iload 4, 2, 0, 0, 0, 0), 0, 4), ((215, .iadd, 1, 0, 0, 0, 0), 16, 0), ((216, .aload_n 0, 1, 0, 0, 0, 0), 5, 0), ((217, .getfield 33, 3, 0, 19, 20, 50), 50, 0), ((220, .iload 4, 2, 0, 0, 0, 0), 0, 4), ((222, .baload, 1, 0, 0, 0, 0), 54, 0), ((223, .bastore, 1, 0, 0, 0, 0), 55, 0)],
  [((224, .iinc 4 1, 3, 1, 0, 0, 0), 36, 4), ((227, .goto (-31), 3, 196, 0, 0, 0), 37, 0), ((230, .aload_n 0, 1, 0, 0, 0, 0), 5, 0), ((231, .aload_n 0, 1, 0, 0, 0, 0), 5, 0), ((232, .getfield 329, 3, 0, 8, 0, 153), 50, 0), ((235, .aload_n 0, 1, 0, 0, 0, 0), 5, 0), ((236, .getfield 338, 3, 0, 20, 0, 230), 50, 0), ((239, .iadd, 1, 0, 0, 0, 0), 16, 0)],
  [((240, .putfield 329, 3, 0, 8, 0, 153), 51, 0), ((243, .iload_n 3, 1, 0, 0, 0, 0), 1, 3), ((244, .ireturn, 1, 0, 0, 0, 0), 1000, 0)]])
def al_mX12_hashOf : ev_MeK := (al_yX12_hashOf, prog_14_method_3_code, 4, (some .int), [[((0, .iload_n 1, 1, 0, 0, 0, 0), 1, 1), ((1, .istore_n 2, 1, 0, 0, 0, 0), 7, 2), ((2, .iconst 0, 1, 0, 0, 0, 0), 12, 0), ((3, .istore_n 3, 1, 0, 0, 0, 0), 7, 3), ((4, .iload_n 3, 1, 0, 0, 0, 0), 1, 3), ((5, .iload_n 1, 1, 0, 0, 0, 0), 1, 1), ((6, .if_icmp .ge 21, 3, 27, 0, 0, 0), 47, 0), ((9, .bipush 31, 2, 31, 0, 0, 0), 13, 0), ((11, .iload_n 2, 1, 0, 0, 0, 0), 1, 2), ((12, .imul, 1, 0, 0, 0, 0), 18, 0), ((13, .aload_n 0, 1, 0, 0, 0, 0), 5, 0), ((14, .getfield 33, 3, 0, 19, 20, 50), 50, 0)],
  [((17, .iload_n 3, 1, 0, 0, 0, 0), 1, 3), ((18, .baload, 1, 0, 0, 0, 0), 54, 0), ((19, .iadd, 1, 0, 0, 0, 0), 16, 0), ((20, .istore_n 2, 1, 0, 0, 0, 0), 7, 2), ((21, .iinc 3 1, 3, 1, 0, 0, 0), 36, 3), ((24, .goto (-20), 3, 4, 0, 0, 0), 37, 0), ((27, .iload_n 2, 1, 0, 0, 0, 0), 1, 2), ((28, .iload_n 2, 1, 0, 0, 0, 0), 1, 2), ((29, .bipush 10, 2, 10, 0, 0, 0), 13, 0), ((31, .iushr, 1, 0, 0, 0, 0), 22, 0)],
  [((32, .ixor, 1, 0, 0, 0, 0), 21, 0), ((33, .sipush 1023, 3, 1023, 0, 0, 0), 14, 0), ((36, .iand, 1, 0, 0, 0, 0), 19, 0), ((37, .ireturn, 1, 0, 0, 0, 0), 1000, 0)]])
def al_mX12_compile : ev_MeK := (al_yX12_compile, prog_14_method_106_code, 2, (some .int), [[((0, .aload_n 0, 1, 0, 0, 0, 0), 5, 0), ((1, .iconst 0, 1, 0, 0, 0, 0), 12, 0), ((2, .putfield 335, 3, 0, 0, 0, 234), 51, 0), ((5, .aload_n 0, 1, 0, 0, 0, 0), 5, 0), ((6, .iconst 0, 1, 0, 0, 0, 0), 12, 0), ((7, .putfield 509, 3, 0, 3, 2, 235), 51, 0), ((10, .aload_n 0, 1, 0, 0, 0, 0), 5, 0), ((11, .aload_n 0, 1, 0, 0, 0, 0), 5, 0), ((12, .getfield 326, 3, 0, 65, 0, 152), 50, 0), ((15, .aload_n 0, 1, 0, 0, 0, 0), 5, 0)],
  [((16, .getfield 332, 3, 0, 66, 0, 154), 50, 0), ((19, .invokevirtual 910, 3, 25, 3, 0, 236), 56, 0), ((22, .iconst 0, 1, 0, 0, 0, 0), 12, 0), ((23, .istore_n 1, 1, 0, 0, 0, 0), 7, 1), ((24, .iload_n 1, 1, 0, 0, 0, 0), 1, 1), ((25, .aload_n 0, 1, 0, 0, 0, 0), 5, 0), ((26, .getfield 326, 3, 0, 65, 0, 152), 50, 0), ((29, .if_icmp .ge 44, 3, 73, 0, 0, 0), 47, 0)],
  [((32, .aload_n 0, 1, 0, 0, 0, 0), 5, 0), ((33, .getfield 24, 3, 0, 11, 20, 47), 50, 0), ((36, .iload_n 1, 1, 0, 0, 0, 0), 1, 1), ((37, .iload_n 1, 1, 0, 0, 0, 0), 1, 1), ((38, .bipush 29, 2, 29, 0, 0, 0), 13, 0), ((40, .if_icmp .eq 21, 3, 61, 0, 0, 0), 44, 0), ((43, .iload_n 1, 1, 0, 0, 0, 0), 1, 1), ((44, .bipush 31, 2, 31, 0, 0, 0), 13, 0), ((46, .if_icmp .eq 15, 3, 61, 0, 0, 0), 44, 0)],
  [((49, .iload_n 1, 1, 0, 0, 0, 0), 1, 1), ((50, .bipush 36, 2, 36, 0, 0, 0), 13, 0), ((52, .if_icmp .eq 9, 3, 61, 0, 0, 0), 44, 0), ((55, .iload_n 1, 1, 0, 0, 0, 0), 1, 1), ((56, .bipush 37, 2, 37, 0, 0, 0), 13, 0), ((58, .if_icmp .lt 7, 3, 65, 0, 0, 0), 46, 0), ((61, .iconst 1, 1, 1, 0, 0, 0), 12, 0), ((62, .goto 4, 3, 66, 0, 0, 0), 37, 0)],
  [((65, .iconst 0, 1, 0, 0, 0, 0), 12, 0), ((66, .iastore, 1, 0, 0, 0, 0), 53, 0), ((67, .iinc 1 1, 3, 1, 0, 0, 0), 36, 1), ((70, .goto (-46), 3, 24, 0, 0, 0), 37, 0), ((73, .aload_n 0, 1, 0, 0, 0, 0), 5, 0), ((74, .iconst 0, 1, 0, 0, 0, 0), 12, 0), ((75, .putfield 618, 3, 0, 4, 0, 237), 51, 0), ((78, .aload_n 0, 1, 0, 0, 0, 0), 5, 0), ((79, .invokevirtual 913, 3, 26, 1, 0, 238), 56, 0)],
  [((82, .aload_n 0, 1, 0, 0, 0, 0), 5, 0), ((83, .invokevirtual 916, 3, 29, 1, 0, 239), 56, 0), ((86, .ifCond .ne 21, 3, 107, 0, 0, 0), 39, 0), ((89, .aload_n 0, 1, 0, 0, 0, 0), 5, 0), ((90, .aload_n 0, 1, 0, 0, 0, 0), 5, 0), ((91, .aload_n 0, 1, 0, 0, 0, 0), 5, 0), ((92, .getfield 621, 3, 0, 5, 0, 240), 50, 0), ((95, .invokevirtual 648, 3, 196, 2, 0, 241), 56, 0)],
  [((98, .putfield 919, 3, 0, 6, 0, 242), 51, 0), ((101, .aload_n 0, 1, 0, 0, 0, 0), 5, 0), ((102, .getfield 618, 3, 0, 4, 0, 237), 50, 0), ((105, .ineg, 1, 0, 0, 0, 0), 23, 0), ((106, .ireturn, 1, 0, 0, 0, 0), 1000, 0), ((107, .aload_n 0, 1, 0, 0, 0, 0), 5, 0), ((108, .aload_n 0, 1, 0, 0, 0, 0), 5, 0), ((109, .getfield 322, 3, 0, 14, 0, 151), 50, 0)],
  [((112, .putfield 922, 3, 0, 15, 0, 243), 51, 0), ((115, .aload_n 0, 1, 0, 0, 0, 0), 5, 0), ((116, .aload_n 0, 1, 0, 0, 0, 0), 5, 0), ((117, .getfield 329, 3, 0, 8, 0, 153), 50, 0), ((120, .putfield 925, 3, 0, 16, 0, 244), 51, 0), ((123, .aload_n 0, 1, 0, 0, 0, 0), 5, 0), ((124, .iconst 1, 1, 1, 0, 0, 0), 12, 0), ((125, .putfield 509, 3, 0, 3, 2, 235), 51, 0)],
  [((128, .aload_n 0, 1, 0, 0, 0, 0), 5, 0), ((129, .invokevirtual 928, 3, 38, 1, 0, 245), 56, 0), ((132, .aload_n 0, 1, 0, 0, 0, 0), 5, 0), ((133, .getfield 784, 3, 0, 34, 0, 246), 50, 0), ((136, .ireturn, 1, 0, 0, 0, 0), 1000, 0)]])
def al_mX12_forgetFrom : ev_MeK := (al_yX12_forgetFrom, prog_14_method_5_code, 4, none, [[((0, .aload_n 0, 1, 0, 0, 0, 0), 5, 0), ((1, .getfield 322, 3, 0, 14, 0, 151), 50, 0), ((4, .iload_n 1, 1, 0, 0, 0, 0), 1, 1), ((5, .if_icmp .le 66, 3, 71, 0, 0, 0), 49, 0), ((8, .aload_n 0, 1, 0, 0, 0, 0), 5, 0), ((9, .dup, 1, 0, 0, 0, 0), 35, 0), ((10, .getfield 322, 3, 0, 14, 0, 151), 50, 0), ((13, .iconst 1, 1, 1, 0, 0, 0), 12, 0), ((14, .isub, 1, 0, 0, 0, 0), 17, 0), ((15, .putfield 322, 3, 0, 14, 0, 151), 51, 0)],
  [((18, .iconst 0, 1, 0, 0, 0, 0), 12, 0), ((19, .istore_n 3, 1, 0, 0, 0, 0), 7, 3), ((20, .iload_n 3, 1, 0, 0, 0, 0), 1, 3), ((21, .sipush 1024, 3, 1024, 0, 0, 0), 14, 0), ((24, .if_icmp .ge 22, 3, 46, 0, 0, 0), 47, 0), ((27, .aload_n 0, 1, 0, 0, 0, 0), 5, 0), ((28, .getfield 30, 3, 0, 13, 20, 49), 50, 0), ((31, .iload_n 3, 1, 0, 0, 0, 0), 1, 3)],
  [((32, .iaload, 1, 0, 0, 0, 0), 52, 0), ((33, .aload_n 0, 1, 0, 0, 0, 0), 5, 0), ((34, .getfield 322, 3, 0, 14, 0, 151), 50, 0), ((37, .if_icmp .eq 9, 3, 46, 0, 0, 0), 44, 0), ((40, .iinc 3 1, 3, 1, 0, 0, 0), 36, 3), ((43, .goto (-23), 3, 20, 0, 0, 0), 37, 0), ((46, .iload_n 3, 1, 0, 0, 0, 0), 1, 3), ((47, .sipush 1024, 3, 1024, 0, 0, 0), 14, 0)],
  [((50, .if_icmp .ge 18, 3, 68, 0, 0, 0), 47, 0), ((53, .aload_n 0, 1, 0, 0, 0, 0), 5, 0), ((54, .getfield 30, 3, 0, 13, 20, 49), 50, 0), ((57, .iload_n 3, 1, 0, 0, 0, 0), 1, 3), ((58, .aload_n 0, 1, 0, 0, 0, 0), 5, 0), ((59, .getfield 27, 3, 0, 12, 20, 48), 50, 0), ((62, .aload_n 0, 1, 0, 0, 0, 0), 5, 0), ((63, .getfield 322, 3, 0, 14, 0, 151), 50, 0)],
  [((66, .iaload, 1, 0, 0, 0, 0), 52, 0), ((67, .iastore, 1, 0, 0, 0, 0), 53, 0), ((68, .goto (-68), 3, 0, 0, 0, 0), 37, 0), ((71, .aload_n 0, 1, 0, 0, 0, 0), 5, 0), ((72, .iload_n 2, 1, 0, 0, 0, 0), 1, 2), ((73, .putfield 329, 3, 0, 8, 0, 153), 51, 0), ((76, .return_, 1, 0, 0, 0, 0), 1000, 0)]])
def al_mX12_readTokens : ev_MeK := (al_yX12_readTokens, prog_14_method_28_code, 4, none, [[((0, .aload_n 0, 1, 0, 0, 0, 0), 5, 0), ((1, .iconst 0, 1, 0, 0, 0, 0), 12, 0), ((2, .putfield 599, 3, 0, 24, 0, 247), 51, 0), ((5, .aload_n 0, 1, 0, 0, 0, 0), 5, 0), ((6, .iconst 0, 1, 0, 0, 0, 0), 12, 0), ((7, .invokevirtual 602, 3, 27, 2, 0, 248), 56, 0), ((10, .istore_n 1, 1, 0, 0, 0, 0), 7, 1), ((11, .iconst 1, 1, 1, 0, 0, 0), 12, 0), ((12, .istore_n 2, 1, 0, 0, 0, 0), 7, 2), ((13, .iload_n 2, 1, 0, 0, 0, 0), 1, 2), ((14, .ifCond .eq 177, 3, 191, 0, 0, 0), 38, 0)],
  [((17, .aload_n 0, 1, 0, 0, 0, 0), 5, 0), ((18, .iload_n 1, 1, 0, 0, 0, 0), 1, 1), ((19, .invokevirtual 517, 3, 28, 2, 0, 249), 56, 0), ((22, .istore_n 3, 1, 0, 0, 0, 0), 7, 3), ((23, .iload_n 3, 1, 0, 0, 0, 0), 1, 3), ((24, .ifCond .ge 12, 3, 36, 0, 0, 0), 41, 0), ((27, .aload_n 0, 1, 0, 0, 0, 0), 5, 0), ((28, .bipush 6, 2, 6, 0, 0, 0), 13, 0), ((30, .putfield 572, 3, 0, 67, 0, 250), 51, 0)],
  [((33, .goto 58, 3, 91, 0, 0, 0), 37, 0), ((36, .iload_n 3, 1, 0, 0, 0, 0), 1, 3), ((37, .invokestatic 562, 3, 197, 1, 0, 251), 57, 0), ((40, .ifCond .eq 11, 3, 51, 0, 0, 0), 38, 0), ((43, .aload_n 0, 1, 0, 0, 0, 0), 5, 0), ((44, .iload_n 1, 1, 0, 0, 0, 0), 1, 1), ((45, .invokevirtual 605, 3, 202, 2, 0, 252), 56, 0)],
  [((48, .goto 43, 3, 91, 0, 0, 0), 37, 0), ((51, .iload_n 3, 1, 0, 0, 0, 0), 1, 3), ((52, .invokestatic 513, 3, 198, 1, 0, 253), 57, 0), ((55, .ifCond .eq 11, 3, 66, 0, 0, 0), 38, 0), ((58, .aload_n 0, 1, 0, 0, 0, 0), 5, 0), ((59, .iload_n 1, 1, 0, 0, 0, 0), 1, 1), ((60, .invokevirtual 609, 3, 203, 2, 0, 254), 56, 0), ((63, .goto 28, 3, 91, 0, 0, 0), 37, 0)],
  [((66, .iload_n 3, 1, 0, 0, 0, 0), 1, 3), ((67, .bipush 34, 2, 34, 0, 0, 0), 13, 0), ((69, .if_icmp .eq 9, 3, 78, 0, 0, 0), 44, 0), ((72, .iload_n 3, 1, 0, 0, 0, 0), 1, 3), ((73, .bipush 39, 2, 39, 0, 0, 0), 13, 0), ((75, .if_icmp .ne 11, 3, 86, 0, 0, 0), 45, 0), ((78, .aload_n 0, 1, 0, 0, 0, 0), 5, 0), ((79, .iload_n 1, 1, 0, 0, 0, 0), 1, 1)],
  [((80, .invokevirtual 612, 3, 205, 2, 0, 255), 56, 0), ((83, .goto 8, 3, 91, 0, 0, 0), 37, 0), ((86, .aload_n 0, 1, 0, 0, 0, 0), 5, 0), ((87, .iload_n 1, 1, 0, 0, 0, 0), 1, 1), ((88, .invokevirtual 615, 3, 208, 2, 0, 256), 56, 0), ((91, .aload_n 0, 1, 0, 0, 0, 0), 5, 0), ((92, .getfield 36, 3, 0, 21, 20, 51), 50, 0), ((95, .aload_n 0, 1, 0, 0, 0, 0), 5, 0)],
  [((96, .getfield 599, 3, 0, 24, 0, 247), 50, 0), ((99, .aload_n 0, 1, 0, 0, 0, 0), 5, 0), ((100, .getfield 572, 3, 0, 67, 0, 250), 50, 0), ((103, .iastore, 1, 0, 0, 0, 0), 53, 0), ((104, .aload_n 0, 1, 0, 0, 0, 0), 5, 0), ((105, .getfield 39, 3, 0, 22, 20, 52), 50, 0), ((108, .aload_n 0, 1, 0, 0, 0, 0), 5, 0), ((109, .getfield 599, 3, 0, 24, 0, 247), 50, 0)],
  [((112, .iload_n 1, 1, 0, 0, 0, 0), 1, 1), ((113, .iastore, 1, 0, 0, 0, 0), 53, 0), ((114, .aload_n 0, 1, 0, 0, 0, 0), 5, 0), ((115, .getfield 42, 3, 0, 23, 20, 54), 50, 0), ((118, .aload_n 0, 1, 0, 0, 0, 0), 5, 0), ((119, .getfield 599, 3, 0, 24, 0, 247), 50, 0), ((122, .aload_n 0, 1, 0, 0, 0, 0), 5, 0), ((123, .getfield 575, 3, 0, 68, 10, 257), 50, 0), ((126, .lastore, 1, 0, 0, 0, 0), 58, 0), ((127, .aload_n 0, 1, 0, 0, 0, 0), 5, 0)],
  [((128, .dup, 1, 0, 0, 0, 0), 35, 0), ((129, .getfield 599, 3, 0, 24, 0, 247), 50, 0), ((132, .iconst 1, 1, 1, 0, 0, 0), 12, 0), ((133, .iadd, 1, 0, 0, 0, 0), 16, 0), ((134, .putfield 599, 3, 0, 24, 0, 247), 51, 0), ((137, .aload_n 0, 1, 0, 0, 0, 0), 5, 0), ((138, .getfield 572, 3, 0, 67, 0, 250), 50, 0), ((141, .bipush 6, 2, 6, 0, 0, 0), 13, 0), ((143, .if_icmp .eq 26, 3, 169, 0, 0, 0), 44, 0)],
  [((146, .aload_n 0, 1, 0, 0, 0, 0), 5, 0), ((147, .getfield 572, 3, 0, 67, 0, 250), 50, 0), ((150, .bipush 7, 2, 7, 0, 0, 0), 13, 0), ((152, .if_icmp .eq 17, 3, 169, 0, 0, 0), 44, 0), ((155, .aload_n 0, 1, 0, 0, 0, 0), 5, 0), ((156, .getfield 599, 3, 0, 24, 0, 247), 50, 0), ((159, .sipush 1500, 3, 1500, 0, 0, 0), 14, 0)],
  [((162, .if_icmp .gt 7, 3, 169, 0, 0, 0), 48, 0), ((165, .iconst 1, 1, 1, 0, 0, 0), 12, 0), ((166, .goto 4, 3, 170, 0, 0, 0), 37, 0), ((169, .iconst 0, 1, 0, 0, 0, 0), 12, 0), ((170, .istore_n 2, 1, 0, 0, 0, 0), 7, 2), ((171, .iload_n 2, 1, 0, 0, 0, 0), 1, 2), ((172, .ifCond .eq 14, 3, 186, 0, 0, 0), 38, 0), ((175, .aload_n 0, 1, 0, 0, 0, 0), 5, 0)],
  [((176, .aload_n 0, 1, 0, 0, 0, 0), 5, 0), ((177, .getfield 565, 3, 0, 69, 0, 258), 50, 0), ((180, .invokevirtual 602, 3, 27, 2, 0, 248), 56, 0), ((183, .goto 4, 3, 187, 0, 0, 0), 37, 0), ((186, .iload_n 1, 1, 0, 0, 0, 0), 1, 1), ((187, .istore_n 1, 1, 0, 0, 0, 0), 7, 1), ((188, .goto (-175), 3, 13, 0, 0, 0), 37, 0), ((191, .return_, 1, 0, 0, 0, 0), 1000, 0)]])
def al_mX12_skip : ev_MeK := (al_yX12_skip, prog_14_method_18_code, 5, (some .int), [[((0, .iload_n 1, 1, 0, 0, 0, 0), 1, 1), ((1, .istore_n 2, 1, 0, 0, 0, 0), 7, 2), ((2, .iconst 1, 1, 1, 0, 0, 0), 12, 0), ((3, .istore_n 3, 1, 0, 0, 0, 0), 7, 3), ((4, .iload_n 3, 1, 0, 0, 0, 0), 1, 3), ((5, .ifCond .eq 100, 3, 105, 0, 0, 0), 38, 0), ((8, .aload_n 0, 1, 0, 0, 0, 0), 5, 0), ((9, .iload_n 2, 1, 0, 0, 0, 0), 1, 2), ((10, .invokevirtual 517, 3, 28, 2, 0, 249), 56, 0), ((13, .istore 4, 2, 0, 0, 0, 0), 6, 4), ((15, .iload 4, 2, 0, 0, 0, 0), 0, 4)],
  [((17, .bipush 32, 2, 32, 0, 0, 0), 13, 0), ((19, .if_icmp .eq 24, 3, 43, 0, 0, 0), 44, 0), ((22, .iload 4, 2, 0, 0, 0, 0), 0, 4), ((24, .bipush 9, 2, 9, 0, 0, 0), 13, 0), ((26, .if_icmp .eq 17, 3, 43, 0, 0, 0), 44, 0), ((29, .iload 4, 2, 0, 0, 0, 0), 0, 4), ((31, .bipush 13, 2, 13, 0, 0, 0), 13, 0)],
  [((33, .if_icmp .eq 10, 3, 43, 0, 0, 0), 44, 0), ((36, .iload 4, 2, 0, 0, 0, 0), 0, 4), ((38, .bipush 10, 2, 10, 0, 0, 0), 13, 0), ((40, .if_icmp .ne 7, 3, 47, 0, 0, 0), 45, 0), ((43, .iconst 1, 1, 1, 0, 0, 0), 12, 0), ((44, .goto 4, 3, 48, 0, 0, 0), 37, 0), ((47, .iconst 0, 1, 0, 0, 0, 0), 12, 0)],
  [((48, .istore_n 3, 1, 0, 0, 0, 0), 7, 3), ((49, .iload 4, 2, 0, 0, 0, 0), 0, 4), ((51, .bipush 45, 2, 45, 0, 0, 0), 13, 0), ((53, .if_icmp .ne 42, 3, 95, 0, 0, 0), 45, 0), ((56, .aload_n 0, 1, 0, 0, 0, 0), 5, 0), ((57, .iload_n 2, 1, 0, 0, 0, 0), 1, 2), ((58, .iconst 1, 1, 1, 0, 0, 0), 12, 0), ((59, .iadd, 1, 0, 0, 0, 0), 16, 0), ((60, .invokevirtual 517, 3, 28, 2, 0, 249), 56, 0), ((63, .bipush 45, 2, 45, 0, 0, 0), 13, 0)],
  [((65, .if_icmp .ne 30, 3, 95, 0, 0, 0), 45, 0), ((68, .iconst 1, 1, 1, 0, 0, 0), 12, 0), ((69, .istore_n 3, 1, 0, 0, 0, 0), 7, 3), ((70, .iload_n 2, 1, 0, 0, 0, 0), 1, 2), ((71, .aload_n 0, 1, 0, 0, 0, 0), 5, 0), ((72, .getfield 506, 3, 0, 2, 0, 259), 50, 0), ((75, .if_icmp .ge 27, 3, 102, 0, 0, 0), 47, 0), ((78, .aload_n 0, 1, 0, 0, 0, 0), 5, 0), ((79, .getfield 7, 3, 0, 1, 20, 41), 50, 0)],
  [((82, .iload_n 2, 1, 0, 0, 0, 0), 1, 2), ((83, .iaload, 1, 0, 0, 0, 0), 52, 0), ((84, .bipush 10, 2, 10, 0, 0, 0), 13, 0), ((86, .if_icmp .eq 16, 3, 102, 0, 0, 0), 44, 0), ((89, .iinc 2 1, 3, 1, 0, 0, 0), 36, 2), ((92, .goto (-22), 3, 70, 0, 0, 0), 37, 0), ((95, .iload_n 3, 1, 0, 0, 0, 0), 1, 3)],
  [((96, .ifCond .eq 6, 3, 102, 0, 0, 0), 38, 0), ((99, .iinc 2 1, 3, 1, 0, 0, 0), 36, 2), ((102, .goto (-98), 3, 4, 0, 0, 0), 37, 0), ((105, .iload_n 2, 1, 0, 0, 0, 0), 1, 2), ((106, .ireturn, 1, 0, 0, 0, 0), 1000, 0)]])
def al_mX12_at : ev_MeK := (al_yX12_at, prog_14_method_13_code, 2, (some .int), [[((0, .iload_n 1, 1, 0, 0, 0, 0), 1, 1), ((1, .aload_n 0, 1, 0, 0, 0, 0), 5, 0), ((2, .getfield 506, 3, 0, 2, 0, 259), 50, 0), ((5, .if_icmp .ge 12, 3, 17, 0, 0, 0), 47, 0), ((8, .aload_n 0, 1, 0, 0, 0, 0), 5, 0), ((9, .getfield 7, 3, 0, 1, 20, 41), 50, 0), ((12, .iload_n 1, 1, 0, 0, 0, 0), 1, 1), ((13, .iaload, 1, 0, 0, 0, 0), 52, 0), ((14, .goto 4, 3, 18, 0, 0, 0), 37, 0)],
  [((17, .iconst (-1), 1, 4294967295, 0, 0, 0), 12, 0), ((18, .ireturn, 1, 0, 0, 0, 0), 1000, 0)]])
def al_mX12_readText : ev_MeK := (al_yX12_readText, prog_14_method_105_code, 3, (some .boolean), [[((0, .aload_n 0, 1, 0, 0, 0, 0), 5, 0), ((1, .iconst 0, 1, 0, 0, 0, 0), 12, 0), ((2, .putfield 624, 3, 0, 25, 0, 260), 51, 0), ((5, .aload_n 0, 1, 0, 0, 0, 0), 5, 0), ((6, .iconst 0, 1, 0, 0, 0, 0), 12, 0), ((7, .putfield 654, 3, 0, 46, 0, 261), 51, 0), ((10, .aload_n 0, 1, 0, 0, 0, 0), 5, 0), ((11, .iconst 0, 1, 0, 0, 0, 0), 12, 0), ((12, .putfield 657, 3, 0, 47, 0, 262), 51, 0), ((15, .aload_n 0, 1, 0, 0, 0, 0), 5, 0)],
  [((16, .iconst 0, 1, 0, 0, 0, 0), 12, 0), ((17, .putfield 666, 3, 0, 50, 0, 263), 51, 0), ((20, .aload_n 0, 1, 0, 0, 0, 0), 5, 0), ((21, .iconst 0, 1, 0, 0, 0, 0), 12, 0), ((22, .putfield 660, 3, 0, 53, 0, 264), 51, 0), ((25, .aload_n 0, 1, 0, 0, 0, 0), 5, 0), ((26, .getfield 104, 3, 0, 51, 20, 75), 50, 0), ((29, .iconst 0, 1, 0, 0, 0, 0), 12, 0), ((30, .iconst 0, 1, 0, 0, 0, 0), 12, 0), ((31, .iastore, 1, 0, 0, 0, 0), 53, 0)],
  [((32, .aload_n 0, 1, 0, 0, 0, 0), 5, 0), ((33, .getfield 107, 3, 0, 52, 20, 76), 50, 0), ((36, .iconst 0, 1, 0, 0, 0, 0), 12, 0), ((37, .iconst 0, 1, 0, 0, 0, 0), 12, 0), ((38, .iastore, 1, 0, 0, 0, 0), 53, 0), ((39, .aload_n 0, 1, 0, 0, 0, 0), 5, 0), ((40, .iconst 0, 1, 0, 0, 0, 0), 12, 0), ((41, .putfield 726, 3, 0, 56, 0, 265), 51, 0), ((44, .aload_n 0, 1, 0, 0, 0, 0), 5, 0), ((45, .iconst 0, 1, 0, 0, 0, 0), 12, 0), ((46, .putfield 705, 3, 0, 60, 0, 266), 51, 0)],
  [((49, .aload_n 0, 1, 0, 0, 0, 0), 5, 0), ((50, .iconst 0, 1, 0, 0, 0, 0), 12, 0), ((51, .putfield 651, 3, 0, 41, 0, 267), 51, 0), ((54, .aload_n 0, 1, 0, 0, 0, 0), 5, 0), ((55, .iconst 0, 1, 0, 0, 0, 0), 12, 0), ((56, .putfield 758, 3, 0, 40, 0, 268), 51, 0), ((59, .aload_n 0, 1, 0, 0, 0, 0), 5, 0), ((60, .iconst 1, 1, 1, 0, 0, 0), 12, 0), ((61, .putfield 784, 3, 0, 34, 0, 246), 51, 0)],
  [((64, .aload_n 0, 1, 0, 0, 0, 0), 5, 0), ((65, .getfield 52, 3, 0, 28, 20, 57), 50, 0), ((68, .iconst 0, 1, 0, 0, 0, 0), 12, 0), ((69, .iconst 0, 1, 0, 0, 0, 0), 12, 0), ((70, .iastore, 1, 0, 0, 0, 0), 53, 0), ((71, .aload_n 0, 1, 0, 0, 0, 0), 5, 0), ((72, .getfield 55, 3, 0, 29, 20, 58), 50, 0), ((75, .iconst 0, 1, 0, 0, 0, 0), 12, 0), ((76, .iconst 0, 1, 0, 0, 0, 0), 12, 0), ((77, .iastore, 1, 0, 0, 0, 0), 53, 0), ((78, .aload_n 0, 1, 0, 0, 0, 0), 5, 0), ((79, .getfield 49, 3, 0, 27, 20, 56), 50, 0)],
  [((82, .iconst 0, 1, 0, 0, 0, 0), 12, 0), ((83, .iconst 0, 1, 0, 0, 0, 0), 12, 0), ((84, .iastore, 1, 0, 0, 0, 0), 53, 0), ((85, .aload_n 0, 1, 0, 0, 0, 0), 5, 0), ((86, .getfield 58, 3, 0, 30, 20, 60), 50, 0), ((89, .iconst 0, 1, 0, 0, 0, 0), 12, 0), ((90, .iconst 1, 1, 1, 0, 0, 0), 12, 0), ((91, .bastore, 1, 0, 0, 0, 0), 55, 0), ((92, .aload_n 0, 1, 0, 0, 0, 0), 5, 0), ((93, .getfield 62, 3, 0, 31, 20, 61), 50, 0)],
  [((96, .iconst 0, 1, 0, 0, 0, 0), 12, 0), ((97, .iconst 0, 1, 0, 0, 0, 0), 12, 0), ((98, .iastore, 1, 0, 0, 0, 0), 53, 0), ((99, .aload_n 0, 1, 0, 0, 0, 0), 5, 0), ((100, .getfield 46, 3, 0, 26, 20, 55), 50, 0), ((103, .iconst 0, 1, 0, 0, 0, 0), 12, 0), ((104, .iconst 0, 1, 0, 0, 0, 0), 12, 0), ((105, .iastore, 1, 0, 0, 0, 0), 53, 0), ((106, .aload_n 0, 1, 0, 0, 0, 0), 5, 0), ((107, .iconst 0, 1, 0, 0, 0, 0), 12, 0), ((108, .iconst 0, 1, 0, 0, 0, 0), 12, 0), ((109, .iconst 0, 1, 0, 0, 0, 0), 12, 0), ((110, .iconst 0, 1, 0, 0, 0, 0), 12, 0), ((111, .invokevirtual 682, 3, 30, 5, 0, 269), 56, 0)],
  [((114, .istore_n 1, 1, 0, 0, 0, 0), 7, 1), ((115, .aload_n 0, 1, 0, 0, 0, 0), 5, 0), ((116, .bipush 42, 2, 42, 0, 0, 0), 13, 0), ((118, .iconst 0, 1, 0, 0, 0, 0), 12, 0), ((119, .iconst 0, 1, 0, 0, 0, 0), 12, 0), ((120, .iconst 0, 1, 0, 0, 0, 0), 12, 0), ((121, .invokevirtual 686, 3, 31, 5, 0, 270), 56, 0), ((124, .aload_n 0, 1, 0, 0, 0, 0), 5, 0), ((125, .iconst 0, 1, 0, 0, 0, 0), 12, 0), ((126, .iconst 0, 1, 0, 0, 0, 0), 12, 0), ((127, .iconst 0, 1, 0, 0, 0, 0), 12, 0)],
  [((128, .iconst 0, 1, 0, 0, 0, 0), 12, 0), ((129, .invokevirtual 686, 3, 31, 5, 0, 270), 56, 0), ((132, .iconst 1, 1, 1, 0, 0, 0), 12, 0), ((133, .istore_n 2, 1, 0, 0, 0, 0), 7, 2), ((134, .aload_n 0, 1, 0, 0, 0, 0), 5, 0), ((135, .getfield 654, 3, 0, 46, 0, 261), 50, 0), ((138, .ifCond .le 76, 3, 214, 0, 0, 0), 43, 0), ((141, .iload_n 2, 1, 0, 0, 0, 0), 1, 2), ((142, .ifCond .eq 72, 3, 214, 0, 0, 0), 38, 0)],
  [((145, .aload_n 0, 1, 0, 0, 0, 0), 5, 0), ((146, .dup, 1, 0, 0, 0, 0), 35, 0), ((147, .getfield 654, 3, 0, 46, 0, 261), 50, 0), ((150, .iconst 1, 1, 1, 0, 0, 0), 12, 0), ((151, .isub, 1, 0, 0, 0, 0), 17, 0), ((152, .putfield 654, 3, 0, 46, 0, 261), 51, 0), ((155, .aload_n 0, 1, 0, 0, 0, 0), 5, 0), ((156, .aload_n 0, 1, 0, 0, 0, 0), 5, 0), ((157, .getfield 86, 3, 0, 42, 20, 69), 50, 0)],
  [((160, .aload_n 0, 1, 0, 0, 0, 0), 5, 0), ((161, .getfield 654, 3, 0, 46, 0, 261), 50, 0), ((164, .iaload, 1, 0, 0, 0, 0), 52, 0), ((165, .aload_n 0, 1, 0, 0, 0, 0), 5, 0), ((166, .getfield 89, 3, 0, 43, 20, 70), 50, 0), ((169, .aload_n 0, 1, 0, 0, 0, 0), 5, 0), ((170, .getfield 654, 3, 0, 46, 0, 261), 50, 0), ((173, .iaload, 1, 0, 0, 0, 0), 52, 0), ((174, .aload_n 0, 1, 0, 0, 0, 0), 5, 0), ((175, .getfield 92, 3, 0, 44, 20, 71), 50, 0)],
  [((178, .aload_n 0, 1, 0, 0, 0, 0), 5, 0), ((179, .getfield 654, 3, 0, 46, 0, 261), 50, 0), ((182, .iaload, 1, 0, 0, 0, 0), 52, 0), ((183, .aload_n 0, 1, 0, 0, 0, 0), 5, 0), ((184, .getfield 95, 3, 0, 45, 20, 72), 50, 0), ((187, .aload_n 0, 1, 0, 0, 0, 0), 5, 0), ((188, .getfield 654, 3, 0, 46, 0, 261), 50, 0), ((191, .iaload, 1, 0, 0, 0, 0), 52, 0)],
  [((192, .invokevirtual 907, 3, 32, 5, 0, 271), 56, 0), ((195, .ifCond .eq 14, 3, 209, 0, 0, 0), 38, 0), ((198, .aload_n 0, 1, 0, 0, 0, 0), 5, 0), ((199, .getfield 618, 3, 0, 4, 0, 237), 50, 0), ((202, .ifCond .ne 7, 3, 209, 0, 0, 0), 39, 0), ((205, .iconst 1, 1, 1, 0, 0, 0), 12, 0), ((206, .goto 4, 3, 210, 0, 0, 0), 37, 0)],
  [((209, .iconst 0, 1, 0, 0, 0, 0), 12, 0), ((210, .istore_n 2, 1, 0, 0, 0, 0), 7, 2), ((211, .goto (-77), 3, 134, 0, 0, 0), 37, 0), ((214, .aload_n 0, 1, 0, 0, 0, 0), 5, 0), ((215, .bipush 14, 2, 14, 0, 0, 0), 13, 0), ((217, .iconst 0, 1, 0, 0, 0, 0), 12, 0), ((218, .iconst 0, 1, 0, 0, 0, 0), 12, 0), ((219, .iconst 0, 1, 0, 0, 0, 0), 12, 0), ((220, .invokevirtual 682, 3, 30, 5, 0, 269), 56, 0), ((223, .istore_n 1, 1, 0, 0, 0, 0), 7, 1)],
  [((224, .aload_n 0, 1, 0, 0, 0, 0), 5, 0), ((225, .bipush 38, 2, 38, 0, 0, 0), 13, 0), ((227, .iconst 0, 1, 0, 0, 0, 0), 12, 0), ((228, .iconst 0, 1, 0, 0, 0, 0), 12, 0), ((229, .iconst 0, 1, 0, 0, 0, 0), 12, 0), ((230, .invokevirtual 682, 3, 30, 5, 0, 269), 56, 0), ((233, .istore_n 1, 1, 0, 0, 0, 0), 7, 1), ((234, .iload_n 2, 1, 0, 0, 0, 0), 1, 2), ((235, .ireturn, 1, 0, 0, 0, 0), 1000, 0)]])
def al_mX12_emit : ev_MeK := (al_yX12_emit, prog_14_method_38_code, 5, (some .int), [[((0, .aload_n 0, 1, 0, 0, 0, 0), 5, 0), ((1, .getfield 71, 3, 0, 35, 20, 64), 50, 0), ((4, .aload_n 0, 1, 0, 0, 0, 0), 5, 0), ((5, .getfield 651, 3, 0, 41, 0, 267), 50, 0), ((8, .iload_n 1, 1, 0, 0, 0, 0), 1, 1), ((9, .iastore, 1, 0, 0, 0, 0), 53, 0), ((10, .aload_n 0, 1, 0, 0, 0, 0), 5, 0), ((11, .getfield 74, 3, 0, 36, 20, 65), 50, 0), ((14, .aload_n 0, 1, 0, 0, 0, 0), 5, 0), ((15, .getfield 651, 3, 0, 41, 0, 267), 50, 0)],
  [((18, .iload_n 2, 1, 0, 0, 0, 0), 1, 2), ((19, .iastore, 1, 0, 0, 0, 0), 53, 0), ((20, .aload_n 0, 1, 0, 0, 0, 0), 5, 0), ((21, .getfield 77, 3, 0, 37, 20, 66), 50, 0), ((24, .aload_n 0, 1, 0, 0, 0, 0), 5, 0), ((25, .getfield 651, 3, 0, 41, 0, 267), 50, 0), ((28, .iload_n 3, 1, 0, 0, 0, 0), 1, 3), ((29, .iastore, 1, 0, 0, 0, 0), 53, 0), ((30, .aload_n 0, 1, 0, 0, 0, 0), 5, 0), ((31, .getfield 80, 3, 0, 38, 20, 67), 50, 0)],
  [((34, .aload_n 0, 1, 0, 0, 0, 0), 5, 0), ((35, .getfield 651, 3, 0, 41, 0, 267), 50, 0), ((38, .iload 4, 2, 0, 0, 0, 0), 0, 4), ((40, .iastore, 1, 0, 0, 0, 0), 53, 0), ((41, .aload_n 0, 1, 0, 0, 0, 0), 5, 0), ((42, .dup, 1, 0, 0, 0, 0), 35, 0), ((43, .getfield 651, 3, 0, 41, 0, 267), 50, 0), ((46, .iconst 1, 1, 1, 0, 0, 0), 12, 0), ((47, .iadd, 1, 0, 0, 0, 0), 16, 0)],
  [((48, .putfield 651, 3, 0, 41, 0, 267), 51, 0), ((51, .aload_n 0, 1, 0, 0, 0, 0), 5, 0), ((52, .getfield 651, 3, 0, 41, 0, 267), 50, 0), ((55, .iconst 1, 1, 1, 0, 0, 0), 12, 0), ((56, .isub, 1, 0, 0, 0, 0), 17, 0), ((57, .ireturn, 1, 0, 0, 0, 0), 1000, 0)]])
def al_mX12_later : ev_MeK := (al_yX12_later, prog_14_method_39_code, 5, none, [[((0, .aload_n 0, 1, 0, 0, 0, 0), 5, 0), ((1, .getfield 86, 3, 0, 42, 20, 69), 50, 0), ((4, .aload_n 0, 1, 0, 0, 0, 0), 5, 0), ((5, .getfield 654, 3, 0, 46, 0, 261), 50, 0), ((8, .iload_n 1, 1, 0, 0, 0, 0), 1, 1), ((9, .iastore, 1, 0, 0, 0, 0), 53, 0), ((10, .aload_n 0, 1, 0, 0, 0, 0), 5, 0), ((11, .getfield 89, 3, 0, 43, 20, 70), 50, 0), ((14, .aload_n 0, 1, 0, 0, 0, 0), 5, 0), ((15, .getfield 654, 3, 0, 46, 0, 261), 50, 0)],
  [((18, .iload_n 2, 1, 0, 0, 0, 0), 1, 2), ((19, .iastore, 1, 0, 0, 0, 0), 53, 0), ((20, .aload_n 0, 1, 0, 0, 0, 0), 5, 0), ((21, .getfield 92, 3, 0, 44, 20, 71), 50, 0), ((24, .aload_n 0, 1, 0, 0, 0, 0), 5, 0), ((25, .getfield 654, 3, 0, 46, 0, 261), 50, 0), ((28, .iload_n 3, 1, 0, 0, 0, 0), 1, 3), ((29, .iastore, 1, 0, 0, 0, 0), 53, 0), ((30, .aload_n 0, 1, 0, 0, 0, 0), 5, 0), ((31, .getfield 95, 3, 0, 45, 20, 72), 50, 0)],
  [((34, .aload_n 0, 1, 0, 0, 0, 0), 5, 0), ((35, .getfield 654, 3, 0, 46, 0, 261), 50, 0), ((38, .iload 4, 2, 0, 0, 0, 0), 0, 4), ((40, .iastore, 1, 0, 0, 0, 0), 53, 0), ((41, .aload_n 0, 1, 0, 0, 0, 0), 5, 0), ((42, .dup, 1, 0, 0, 0, 0), 35, 0), ((43, .getfield 654, 3, 0, 46, 0, 261), 50, 0), ((46, .iconst 1, 1, 1, 0, 0, 0), 12, 0), ((47, .iadd, 1, 0, 0, 0, 0), 16, 0)],
  [((48, .putfield 654, 3, 0, 46, 0, 261), 51, 0), ((51, .return_, 1, 0, 0, 0, 0), 1000, 0)]])
def al_mX12_goOn : ev_MeK := (al_yX12_goOn, prog_14_method_103_code, 5, (some .boolean), [[((0, .iload_n 1, 1, 0, 0, 0, 0), 1, 1), ((1, .tableswitch 274 0 20 #[99, 104, 116, 123, 129, 135, 142, 151, 156, 161, 166, 172, 177, 184, 190, 196, 203, 245, 254, 261, 267], 99, 0, 0, 0, 0), 58, 0)],
  [],
  [],
  [],
  [],
  [],
  [((100, .aload_n 0, 1, 0, 0, 0, 0), 5, 0), ((101, .invokevirtual 808, 3, 33, 1, 0, 272), 56, 0), ((104, .ireturn, 1, 0, 0, 0, 0), 1000, 0), ((105, .aload_n 0, 1, 0, 0, 0, 0), 5, 0), ((106, .dup, 1, 0, 0, 0, 0), 35, 0), ((107, .getfield 657, 3, 0, 47, 0, 262), 50, 0), ((110, .iconst 1, 1, 1, 0, 0, 0), 12, 0), ((111, .isub, 1, 0, 0, 0, 0), 17, 0)],
  [((112, .putfield 657, 3, 0, 47, 0, 262), 51, 0), ((115, .iconst 1, 1, 1, 0, 0, 0), 12, 0), ((116, .ireturn, 1, 0, 0, 0, 0), 1000, 0), ((117, .aload_n 0, 1, 0, 0, 0, 0), 5, 0), ((118, .iload_n 2, 1, 0, 0, 0, 0), 1, 2), ((119, .invokevirtual 801, 3, 225, 2, 0, 273), 56, 0), ((122, .iconst 1, 1, 1, 0, 0, 0), 12, 0), ((123, .ireturn, 1, 0, 0, 0, 0), 1000, 0), ((124, .aload_n 0, 1, 0, 0, 0, 0), 5, 0), ((125, .iload_n 2, 1, 0, 0, 0, 0), 1, 2), ((126, .invokevirtual 811, 3, 236, 2, 0, 274), 56, 0)],
  [((129, .ireturn, 1, 0, 0, 0, 0), 1000, 0), ((130, .aload_n 0, 1, 0, 0, 0, 0), 5, 0), ((131, .iload_n 2, 1, 0, 0, 0, 0), 1, 2), ((132, .invokevirtual 814, 3, 239, 2, 0, 275), 56, 0), ((135, .ireturn, 1, 0, 0, 0, 0), 1000, 0), ((136, .aload_n 0, 1, 0, 0, 0, 0), 5, 0), ((137, .iload_n 2, 1, 0, 0, 0, 0), 1, 2), ((138, .iload_n 3, 1, 0, 0, 0, 0), 1, 3), ((139, .invokevirtual 817, 3, 242, 3, 0, 276), 56, 0), ((142, .ireturn, 1, 0, 0, 0, 0), 1000, 0), ((143, .aload_n 0, 1, 0, 0, 0, 0), 5, 0)],
  [((144, .iload_n 2, 1, 0, 0, 0, 0), 1, 2), ((145, .iload_n 3, 1, 0, 0, 0, 0), 1, 3), ((146, .iload 4, 2, 0, 0, 0, 0), 0, 4), ((148, .invokevirtual 820, 3, 241, 4, 0, 277), 56, 0), ((151, .ireturn, 1, 0, 0, 0, 0), 1000, 0), ((152, .aload_n 0, 1, 0, 0, 0, 0), 5, 0), ((153, .invokevirtual 823, 3, 243, 1, 0, 278), 56, 0), ((156, .ireturn, 1, 0, 0, 0, 0), 1000, 0), ((157, .aload_n 0, 1, 0, 0, 0, 0), 5, 0), ((158, .invokevirtual 826, 3, 245, 1, 0, 279), 56, 0)],
  [((161, .ireturn, 1, 0, 0, 0, 0), 1000, 0), ((162, .aload_n 0, 1, 0, 0, 0, 0), 5, 0), ((163, .invokevirtual 829, 3, 273, 1, 0, 280), 56, 0), ((166, .ireturn, 1, 0, 0, 0, 0), 1000, 0), ((167, .aload_n 0, 1, 0, 0, 0, 0), 5, 0), ((168, .iload_n 2, 1, 0, 0, 0, 0), 1, 2), ((169, .invokevirtual 832, 3, 274, 2, 0, 281), 56, 0), ((172, .ireturn, 1, 0, 0, 0, 0), 1000, 0), ((173, .aload_n 0, 1, 0, 0, 0, 0), 5, 0), ((174, .invokevirtual 835, 3, 275, 1, 0, 282), 56, 0)],
  [((177, .ireturn, 1, 0, 0, 0, 0), 1000, 0), ((178, .aload_n 0, 1, 0, 0, 0, 0), 5, 0), ((179, .bipush 41, 2, 41, 0, 0, 0), 13, 0), ((181, .invokevirtual 792, 3, 213, 2, 0, 283), 56, 0), ((184, .ireturn, 1, 0, 0, 0, 0), 1000, 0), ((185, .aload_n 0, 1, 0, 0, 0, 0), 5, 0), ((186, .iload_n 2, 1, 0, 0, 0, 0), 1, 2), ((187, .invokevirtual 838, 3, 276, 2, 0, 284), 56, 0), ((190, .ireturn, 1, 0, 0, 0, 0), 1000, 0), ((191, .aload_n 0, 1, 0, 0, 0, 0), 5, 0)],
  [((192, .iload_n 2, 1, 0, 0, 0, 0), 1, 2), ((193, .invokevirtual 841, 3, 247, 2, 0, 285), 56, 0), ((196, .ireturn, 1, 0, 0, 0, 0), 1000, 0), ((197, .aload_n 0, 1, 0, 0, 0, 0), 5, 0), ((198, .iload_n 2, 1, 0, 0, 0, 0), 1, 2), ((199, .iload_n 3, 1, 0, 0, 0, 0), 1, 3), ((200, .invokevirtual 844, 3, 249, 3, 0, 286), 56, 0), ((203, .ireturn, 1, 0, 0, 0, 0), 1000, 0), ((204, .aload_n 0, 1, 0, 0, 0, 0), 5, 0), ((205, .bipush 17, 2, 17, 0, 0, 0), 13, 0), ((207, .iload_n 2, 1, 0, 0, 0, 0), 1, 2)],
  [((208, .iload_n 3, 1, 0, 0, 0, 0), 1, 3), ((209, .iload 4, 2, 0, 0, 0, 0), 0, 4), ((211, .invokevirtual 686, 3, 31, 5, 0, 270), 56, 0), ((214, .aload_n 0, 1, 0, 0, 0, 0), 5, 0), ((215, .iconst 3, 1, 3, 0, 0, 0), 12, 0), ((216, .iconst 0, 1, 0, 0, 0, 0), 12, 0), ((217, .iconst 0, 1, 0, 0, 0, 0), 12, 0), ((218, .iconst 0, 1, 0, 0, 0, 0), 12, 0), ((219, .invokevirtual 686, 3, 31, 5, 0, 270), 56, 0), ((222, .aload_n 0, 1, 0, 0, 0, 0), 5, 0), ((223, .bipush 93, 2, 93, 0, 0, 0), 13, 0)],
  [((225, .invokevirtual 792, 3, 213, 2, 0, 283), 56, 0), ((228, .ifCond .eq 16, 3, 244, 0, 0, 0), 38, 0), ((231, .aload_n 0, 1, 0, 0, 0, 0), 5, 0), ((232, .bipush 61, 2, 61, 0, 0, 0), 13, 0), ((234, .invokevirtual 792, 3, 213, 2, 0, 283), 56, 0), ((237, .ifCond .eq 7, 3, 244, 0, 0, 0), 38, 0)],
  [((240, .iconst 1, 1, 1, 0, 0, 0), 12, 0), ((241, .goto 4, 3, 245, 0, 0, 0), 37, 0), ((244, .iconst 0, 1, 0, 0, 0, 0), 12, 0), ((245, .ireturn, 1, 0, 0, 0, 0), 1000, 0), ((246, .aload_n 0, 1, 0, 0, 0, 0), 5, 0), ((247, .iload_n 2, 1, 0, 0, 0, 0), 1, 2), ((248, .iload_n 3, 1, 0, 0, 0, 0), 1, 3), ((249, .iload 4, 2, 0, 0, 0, 0), 0, 4), ((251, .invokevirtual 847, 3, 251, 4, 0, 287), 56, 0), ((254, .ireturn, 1, 0, 0, 0, 0), 1000, 0), ((255, .aload_n 0, 1, 0, 0, 0, 0), 5, 0)],
  [((256, .iload_n 2, 1, 0, 0, 0, 0), 1, 2), ((257, .iload_n 3, 1, 0, 0, 0, 0), 1, 3), ((258, .invokevirtual 850, 3, 252, 3, 0, 288), 56, 0), ((261, .ireturn, 1, 0, 0, 0, 0), 1000, 0), ((262, .aload_n 0, 1, 0, 0, 0, 0), 5, 0), ((263, .iload_n 2, 1, 0, 0, 0, 0), 1, 2), ((264, .invokevirtual 853, 3, 253, 2, 0, 289), 56, 0), ((267, .ireturn, 1, 0, 0, 0, 0), 1000, 0), ((268, .aload_n 0, 1, 0, 0, 0, 0), 5, 0), ((269, .iload_n 2, 1, 0, 0, 0, 0), 1, 2), ((270, .iload_n 3, 1, 0, 0, 0, 0), 1, 3), ((271, .invokevirtual 856, 3, 255, 3, 0, 290), 56, 0)],
  [((274, .ireturn, 1, 0, 0, 0, 0), 1000, 0), ((275, .aload_n 0, 1, 0, 0, 0, 0), 5, 0), ((276, .iload_n 1, 1, 0, 0, 0, 0), 1, 1), ((277, .iload_n 2, 1, 0, 0, 0, 0), 1, 2), ((278, .iload_n 3, 1, 0, 0, 0, 0), 1, 3), ((279, .iload 4, 2, 0, 0, 0, 0), 0, 4), ((281, .invokevirtual 859, 3, 37, 5, 0, 291), 56, 0), ((284, .ireturn, 1, 0, 0, 0, 0), 1000, 0)]])
def al_mX12_readBlock : ev_MeK := (al_yX12_readBlock, prog_14_method_51_code, 3, (some .boolean), [[((0, .aload_n 0, 1, 0, 0, 0, 0), 5, 0), ((1, .bipush 17, 2, 17, 0, 0, 0), 13, 0), ((3, .invokevirtual 645, 3, 34, 2, 0, 292), 56, 0), ((6, .ifCond .eq 71, 3, 77, 0, 0, 0), 38, 0), ((9, .aload_n 0, 1, 0, 0, 0, 0), 5, 0), ((10, .invokevirtual 690, 3, 215, 1, 0, 293), 56, 0), ((13, .istore_n 1, 1, 0, 0, 0, 0), 7, 1), ((14, .aload_n 0, 1, 0, 0, 0, 0), 5, 0), ((15, .iconst 0, 1, 0, 0, 0, 0), 12, 0)],
  [((16, .iconst 0, 1, 0, 0, 0, 0), 12, 0), ((17, .iconst 0, 1, 0, 0, 0, 0), 12, 0), ((18, .iconst 0, 1, 0, 0, 0, 0), 12, 0), ((19, .invokevirtual 682, 3, 30, 5, 0, 269), 56, 0), ((22, .istore_n 2, 1, 0, 0, 0, 0), 7, 2), ((23, .aload_n 0, 1, 0, 0, 0, 0), 5, 0), ((24, .bipush 14, 2, 14, 0, 0, 0), 13, 0), ((26, .iconst 0, 1, 0, 0, 0, 0), 12, 0), ((27, .iconst 0, 1, 0, 0, 0, 0), 12, 0), ((28, .iconst 0, 1, 0, 0, 0, 0), 12, 0), ((29, .invokevirtual 682, 3, 30, 5, 0, 269), 56, 0)],
  [((32, .istore_n 2, 1, 0, 0, 0, 0), 7, 2), ((33, .aload_n 0, 1, 0, 0, 0, 0), 5, 0), ((34, .invokevirtual 638, 3, 212, 1, 0, 294), 56, 0), ((37, .ifCond .ne 5, 3, 42, 0, 0, 0), 39, 0), ((40, .iconst 0, 1, 0, 0, 0, 0), 12, 0), ((41, .ireturn, 1, 0, 0, 0, 0), 1000, 0), ((42, .aload_n 0, 1, 0, 0, 0, 0), 5, 0), ((43, .bipush 37, 2, 37, 0, 0, 0), 13, 0), ((45, .iload_n 1, 1, 0, 0, 0, 0), 1, 1), ((46, .iconst 0, 1, 0, 0, 0, 0), 12, 0), ((47, .iconst 0, 1, 0, 0, 0, 0), 12, 0)],
  [((48, .invokevirtual 686, 3, 31, 5, 0, 270), 56, 0), ((51, .aload_n 0, 1, 0, 0, 0, 0), 5, 0), ((52, .invokevirtual 693, 3, 217, 1, 0, 295), 56, 0), ((55, .ifCond .eq 20, 3, 75, 0, 0, 0), 38, 0), ((58, .aload_n 0, 1, 0, 0, 0, 0), 5, 0), ((59, .bipush 14, 2, 14, 0, 0, 0), 13, 0), ((61, .iconst 0, 1, 0, 0, 0, 0), 12, 0), ((62, .iconst 0, 1, 0, 0, 0, 0), 12, 0), ((63, .iconst 0, 1, 0, 0, 0, 0), 12, 0)],
  [((64, .invokevirtual 686, 3, 31, 5, 0, 270), 56, 0), ((67, .aload_n 0, 1, 0, 0, 0, 0), 5, 0), ((68, .iconst 3, 1, 3, 0, 0, 0), 12, 0), ((69, .iconst 0, 1, 0, 0, 0, 0), 12, 0), ((70, .iconst 0, 1, 0, 0, 0, 0), 12, 0), ((71, .iconst 0, 1, 0, 0, 0, 0), 12, 0), ((72, .invokevirtual 686, 3, 31, 5, 0, 270), 56, 0), ((75, .iconst 1, 1, 1, 0, 0, 0), 12, 0), ((76, .ireturn, 1, 0, 0, 0, 0), 1000, 0), ((77, .aload_n 0, 1, 0, 0, 0, 0), 5, 0), ((78, .invokevirtual 696, 3, 35, 1, 0, 296), 56, 0)],
  [((81, .ifCond .ne 5, 3, 86, 0, 0, 0), 39, 0), ((84, .iconst 1, 1, 1, 0, 0, 0), 12, 0), ((85, .ireturn, 1, 0, 0, 0, 0), 1000, 0), ((86, .aload_n 0, 1, 0, 0, 0, 0), 5, 0), ((87, .iconst 0, 1, 0, 0, 0, 0), 12, 0), ((88, .iconst 0, 1, 0, 0, 0, 0), 12, 0), ((89, .iconst 0, 1, 0, 0, 0, 0), 12, 0), ((90, .iconst 0, 1, 0, 0, 0, 0), 12, 0), ((91, .invokevirtual 686, 3, 31, 5, 0, 270), 56, 0), ((94, .aload_n 0, 1, 0, 0, 0, 0), 5, 0), ((95, .invokevirtual 699, 3, 216, 1, 0, 297), 56, 0)],
  [((98, .ifCond .ne 5, 3, 103, 0, 0, 0), 39, 0), ((101, .iconst 0, 1, 0, 0, 0, 0), 12, 0), ((102, .ireturn, 1, 0, 0, 0, 0), 1000, 0), ((103, .aload_n 0, 1, 0, 0, 0, 0), 5, 0), ((104, .iconst 1, 1, 1, 0, 0, 0), 12, 0), ((105, .iconst 0, 1, 0, 0, 0, 0), 12, 0), ((106, .iconst 0, 1, 0, 0, 0, 0), 12, 0), ((107, .iconst 0, 1, 0, 0, 0, 0), 12, 0), ((108, .invokevirtual 686, 3, 31, 5, 0, 270), 56, 0), ((111, .aload_n 0, 1, 0, 0, 0, 0), 5, 0)],
  [((112, .invokevirtual 702, 3, 226, 1, 0, 298), 56, 0), ((115, .ireturn, 1, 0, 0, 0, 0), 1000, 0)]])
def al_mX12_isWord : ev_MeK := (al_yX12_isWord, prog_14_method_34_code, 2, (some .boolean), [[((0, .aload_n 0, 1, 0, 0, 0, 0), 5, 0), ((1, .getfield 36, 3, 0, 21, 20, 51), 50, 0), ((4, .aload_n 0, 1, 0, 0, 0, 0), 5, 0), ((5, .getfield 624, 3, 0, 25, 0, 260), 50, 0), ((8, .iaload, 1, 0, 0, 0, 0), 52, 0), ((9, .iconst 4, 1, 4, 0, 0, 0), 12, 0), ((10, .if_icmp .ne 22, 3, 32, 0, 0, 0), 45, 0), ((13, .aload_n 0, 1, 0, 0, 0, 0), 5, 0), ((14, .getfield 42, 3, 0, 23, 20, 54), 50, 0)],
  [((17, .aload_n 0, 1, 0, 0, 0, 0), 5, 0), ((18, .getfield 624, 3, 0, 25, 0, 260), 50, 0), ((21, .laload, 1, 0, 0, 0, 0), 58, 0), ((22, .iload_n 1, 1, 0, 0, 0, 0), 1, 1), ((23, .i2l, 1, 0, 0, 0, 0), 26, 0), ((24, .lcmp, 1, 0, 0, 0, 0), 32, 0), ((25, .ifCond .ne 7, 3, 32, 0, 0, 0), 39, 0), ((28, .iconst 1, 1, 1, 0, 0, 0), 12, 0), ((29, .goto 4, 3, 33, 0, 0, 0), 37, 0)],
  [((32, .iconst 0, 1, 0, 0, 0, 0), 12, 0), ((33, .ireturn, 1, 0, 0, 0, 0), 1000, 0)]])
def al_mX12_beginsStatement : ev_MeK := (al_yX12_beginsStatement, prog_14_method_42_code, 2, (some .boolean), [[((0, .aload_n 0, 1, 0, 0, 0, 0), 5, 0), ((1, .getfield 36, 3, 0, 21, 20, 51), 50, 0), ((4, .aload_n 0, 1, 0, 0, 0, 0), 5, 0), ((5, .getfield 624, 3, 0, 25, 0, 260), 50, 0), ((8, .iaload, 1, 0, 0, 0, 0), 52, 0), ((9, .iconst 1, 1, 1, 0, 0, 0), 12, 0), ((10, .if_icmp .eq 21, 3, 31, 0, 0, 0), 44, 0), ((13, .aload_n 0, 1, 0, 0, 0, 0), 5, 0), ((14, .bipush 59, 2, 59, 0, 0, 0), 13, 0)],
  [((16, .invokevirtual 635, 3, 36, 2, 0, 299), 56, 0), ((19, .ifCond .ne 12, 3, 31, 0, 0, 0), 39, 0), ((22, .aload_n 0, 1, 0, 0, 0, 0), 5, 0), ((23, .bipush 40, 2, 40, 0, 0, 0), 13, 0), ((25, .invokevirtual 635, 3, 36, 2, 0, 299), 56, 0), ((28, .ifCond .eq 5, 3, 33, 0, 0, 0), 38, 0), ((31, .iconst 1, 1, 1, 0, 0, 0), 12, 0)],
  [((32, .ireturn, 1, 0, 0, 0, 0), 1000, 0), ((33, .aload_n 0, 1, 0, 0, 0, 0), 5, 0), ((34, .getfield 36, 3, 0, 21, 20, 51), 50, 0), ((37, .aload_n 0, 1, 0, 0, 0, 0), 5, 0), ((38, .getfield 624, 3, 0, 25, 0, 260), 50, 0), ((41, .iaload, 1, 0, 0, 0, 0), 52, 0), ((42, .iconst 4, 1, 4, 0, 0, 0), 12, 0), ((43, .if_icmp .ne 16, 3, 59, 0, 0, 0), 45, 0), ((46, .aload_n 0, 1, 0, 0, 0, 0), 5, 0), ((47, .getfield 42, 3, 0, 23, 20, 54), 50, 0)],
  [((50, .aload_n 0, 1, 0, 0, 0, 0), 5, 0), ((51, .getfield 624, 3, 0, 25, 0, 260), 50, 0), ((54, .laload, 1, 0, 0, 0, 0), 58, 0), ((55, .l2i, 1, 0, 0, 0, 0), 33, 0), ((56, .goto 4, 3, 60, 0, 0, 0), 37, 0), ((59, .iconst 0, 1, 0, 0, 0, 0), 12, 0), ((60, .istore_n 1, 1, 0, 0, 0, 0), 7, 1), ((61, .iload_n 1, 1, 0, 0, 0, 0), 1, 1), ((62, .iconst 3, 1, 3, 0, 0, 0), 12, 0), ((63, .if_icmp .eq 44, 3, 107, 0, 0, 0), 44, 0)],
  [((66, .iload_n 1, 1, 0, 0, 0, 0), 1, 1), ((67, .bipush 21, 2, 21, 0, 0, 0), 13, 0), ((69, .if_icmp .eq 38, 3, 107, 0, 0, 0), 44, 0), ((72, .iload_n 1, 1, 0, 0, 0, 0), 1, 1), ((73, .bipush 16, 2, 16, 0, 0, 0), 13, 0), ((75, .if_icmp .eq 32, 3, 107, 0, 0, 0), 44, 0), ((78, .iload_n 1, 1, 0, 0, 0, 0), 1, 1), ((79, .bipush 10, 2, 10, 0, 0, 0), 13, 0)],
  [((81, .if_icmp .eq 26, 3, 107, 0, 0, 0), 44, 0), ((84, .iload_n 1, 1, 0, 0, 0, 0), 1, 1), ((85, .bipush 8, 2, 8, 0, 0, 0), 13, 0), ((87, .if_icmp .eq 20, 3, 107, 0, 0, 0), 44, 0), ((90, .iload_n 1, 1, 0, 0, 0, 0), 1, 1), ((91, .bipush 9, 2, 9, 0, 0, 0), 13, 0), ((93, .if_icmp .eq 14, 3, 107, 0, 0, 0), 44, 0)],
  [((96, .iload_n 1, 1, 0, 0, 0, 0), 1, 1), ((97, .bipush 12, 2, 12, 0, 0, 0), 13, 0), ((99, .if_icmp .eq 8, 3, 107, 0, 0, 0), 44, 0), ((102, .iload_n 1, 1, 0, 0, 0, 0), 1, 1), ((103, .iconst 2, 1, 2, 0, 0, 0), 12, 0), ((104, .if_icmp .ne 7, 3, 111, 0, 0, 0), 45, 0), ((107, .iconst 1, 1, 1, 0, 0, 0), 12, 0), ((108, .goto 4, 3, 112, 0, 0, 0), 37, 0), ((111, .iconst 0, 1, 0, 0, 0, 0), 12, 0)],
  [((112, .ireturn, 1, 0, 0, 0, 0), 1000, 0)]])
def al_mX12_isSign : ev_MeK := (al_yX12_isSign, prog_14_method_33_code, 2, (some .boolean), [[((0, .aload_n 0, 1, 0, 0, 0, 0), 5, 0), ((1, .getfield 36, 3, 0, 21, 20, 51), 50, 0), ((4, .aload_n 0, 1, 0, 0, 0, 0), 5, 0), ((5, .getfield 624, 3, 0, 25, 0, 260), 50, 0), ((8, .iaload, 1, 0, 0, 0, 0), 52, 0), ((9, .iconst 5, 1, 5, 0, 0, 0), 12, 0), ((10, .if_icmp .ne 22, 3, 32, 0, 0, 0), 45, 0), ((13, .aload_n 0, 1, 0, 0, 0, 0), 5, 0), ((14, .getfield 42, 3, 0, 23, 20, 54), 50, 0)],
  [((17, .aload_n 0, 1, 0, 0, 0, 0), 5, 0), ((18, .getfield 624, 3, 0, 25, 0, 260), 50, 0), ((21, .laload, 1, 0, 0, 0, 0), 58, 0), ((22, .iload_n 1, 1, 0, 0, 0, 0), 1, 1), ((23, .i2l, 1, 0, 0, 0, 0), 26, 0), ((24, .lcmp, 1, 0, 0, 0, 0), 32, 0), ((25, .ifCond .ne 7, 3, 32, 0, 0, 0), 39, 0), ((28, .iconst 1, 1, 1, 0, 0, 0), 12, 0), ((29, .goto 4, 3, 33, 0, 0, 0), 37, 0)],
  [((32, .iconst 0, 1, 0, 0, 0, 0), 12, 0), ((33, .ireturn, 1, 0, 0, 0, 0), 1000, 0)]])
def al_mX12_goOnStatement : ev_MeK := (al_yX12_goOnStatement, prog_14_method_104_code, 6, (some .boolean), [[((0, .iload_n 1, 1, 0, 0, 0, 0), 1, 1), ((1, .tableswitch 268 21 41 #[99, 105, 112, 118, 125, 131, 137, 144, 153, 162, 169, 178, 187, 196, 205, 214, 223, 268, 229, 246, 259], 99, 0, 0, 0, 0), 58, 0)],
  [],
  [],
  [],
  [],
  [],
  [((100, .aload_n 0, 1, 0, 0, 0, 0), 5, 0), ((101, .iload_n 2, 1, 0, 0, 0, 0), 1, 2), ((102, .invokevirtual 862, 3, 256, 2, 0, 300), 56, 0), ((105, .ireturn, 1, 0, 0, 0, 0), 1000, 0), ((106, .aload_n 0, 1, 0, 0, 0, 0), 5, 0), ((107, .iload_n 2, 1, 0, 0, 0, 0), 1, 2), ((108, .iload_n 3, 1, 0, 0, 0, 0), 1, 3), ((109, .invokevirtual 865, 3, 257, 3, 0, 301), 56, 0)],
  [((112, .ireturn, 1, 0, 0, 0, 0), 1000, 0), ((113, .aload_n 0, 1, 0, 0, 0, 0), 5, 0), ((114, .iload_n 2, 1, 0, 0, 0, 0), 1, 2), ((115, .invokevirtual 868, 3, 258, 2, 0, 302), 56, 0), ((118, .ireturn, 1, 0, 0, 0, 0), 1000, 0), ((119, .aload_n 0, 1, 0, 0, 0, 0), 5, 0), ((120, .iload_n 2, 1, 0, 0, 0, 0), 1, 2), ((121, .iload_n 3, 1, 0, 0, 0, 0), 1, 3), ((122, .invokevirtual 871, 3, 259, 3, 0, 303), 56, 0), ((125, .ireturn, 1, 0, 0, 0, 0), 1000, 0), ((126, .aload_n 0, 1, 0, 0, 0, 0), 5, 0), ((127, .iload_n 2, 1, 0, 0, 0, 0), 1, 2)],
  [((128, .invokevirtual 795, 3, 260, 2, 0, 304), 56, 0), ((131, .ireturn, 1, 0, 0, 0, 0), 1000, 0), ((132, .aload_n 0, 1, 0, 0, 0, 0), 5, 0), ((133, .iload_n 2, 1, 0, 0, 0, 0), 1, 2), ((134, .invokevirtual 874, 3, 261, 2, 0, 305), 56, 0), ((137, .ireturn, 1, 0, 0, 0, 0), 1000, 0), ((138, .aload_n 0, 1, 0, 0, 0, 0), 5, 0), ((139, .iload_n 2, 1, 0, 0, 0, 0), 1, 2), ((140, .iload_n 3, 1, 0, 0, 0, 0), 1, 3), ((141, .invokevirtual 877, 3, 262, 3, 0, 306), 56, 0)],
  [((144, .ireturn, 1, 0, 0, 0, 0), 1000, 0), ((145, .aload_n 0, 1, 0, 0, 0, 0), 5, 0), ((146, .iload_n 2, 1, 0, 0, 0, 0), 1, 2), ((147, .iload_n 3, 1, 0, 0, 0, 0), 1, 3), ((148, .iload 4, 2, 0, 0, 0, 0), 0, 4), ((150, .invokevirtual 880, 3, 263, 4, 0, 307), 56, 0), ((153, .ireturn, 1, 0, 0, 0, 0), 1000, 0), ((154, .aload_n 0, 1, 0, 0, 0, 0), 5, 0), ((155, .iload_n 2, 1, 0, 0, 0, 0), 1, 2), ((156, .iload_n 3, 1, 0, 0, 0, 0), 1, 3), ((157, .iload 4, 2, 0, 0, 0, 0), 0, 4), ((159, .invokevirtual 883, 3, 264, 4, 0, 308), 56, 0)],
  [((162, .ireturn, 1, 0, 0, 0, 0), 1000, 0), ((163, .aload_n 0, 1, 0, 0, 0, 0), 5, 0), ((164, .bipush 6, 2, 6, 0, 0, 0), 13, 0), ((166, .invokevirtual 746, 3, 214, 2, 0, 309), 56, 0), ((169, .ireturn, 1, 0, 0, 0, 0), 1000, 0), ((170, .aload_n 0, 1, 0, 0, 0, 0), 5, 0), ((171, .iload_n 2, 1, 0, 0, 0, 0), 1, 2), ((172, .iload_n 3, 1, 0, 0, 0, 0), 1, 3), ((173, .iload 4, 2, 0, 0, 0, 0), 0, 4), ((175, .invokevirtual 886, 3, 265, 4, 0, 310), 56, 0)],
  [((178, .ireturn, 1, 0, 0, 0, 0), 1000, 0), ((179, .aload_n 0, 1, 0, 0, 0, 0), 5, 0), ((180, .iload_n 2, 1, 0, 0, 0, 0), 1, 2), ((181, .iload_n 3, 1, 0, 0, 0, 0), 1, 3), ((182, .iload 4, 2, 0, 0, 0, 0), 0, 4), ((184, .invokevirtual 889, 3, 266, 4, 0, 311), 56, 0), ((187, .ireturn, 1, 0, 0, 0, 0), 1000, 0), ((188, .aload_n 0, 1, 0, 0, 0, 0), 5, 0), ((189, .iload_n 2, 1, 0, 0, 0, 0), 1, 2), ((190, .iload_n 3, 1, 0, 0, 0, 0), 1, 3), ((191, .iload 4, 2, 0, 0, 0, 0), 0, 4)],
  [((193, .invokevirtual 804, 3, 267, 4, 0, 312), 56, 0), ((196, .ireturn, 1, 0, 0, 0, 0), 1000, 0), ((197, .aload_n 0, 1, 0, 0, 0, 0), 5, 0), ((198, .iload_n 2, 1, 0, 0, 0, 0), 1, 2), ((199, .iload_n 3, 1, 0, 0, 0, 0), 1, 3), ((200, .iload 4, 2, 0, 0, 0, 0), 0, 4), ((202, .invokevirtual 892, 3, 268, 4, 0, 313), 56, 0), ((205, .ireturn, 1, 0, 0, 0, 0), 1000, 0), ((206, .aload_n 0, 1, 0, 0, 0, 0), 5, 0), ((207, .iload_n 2, 1, 0, 0, 0, 0), 1, 2)],
  [((208, .iload_n 3, 1, 0, 0, 0, 0), 1, 3), ((209, .iload 4, 2, 0, 0, 0, 0), 0, 4), ((211, .invokevirtual 895, 3, 269, 4, 0, 314), 56, 0), ((214, .ireturn, 1, 0, 0, 0, 0), 1000, 0), ((215, .aload_n 0, 1, 0, 0, 0, 0), 5, 0), ((216, .iload_n 2, 1, 0, 0, 0, 0), 1, 2), ((217, .iload_n 3, 1, 0, 0, 0, 0), 1, 3), ((218, .iload 4, 2, 0, 0, 0, 0), 0, 4), ((220, .invokevirtual 898, 3, 270, 4, 0, 315), 56, 0), ((223, .ireturn, 1, 0, 0, 0, 0), 1000, 0)],
  [((224, .aload_n 0, 1, 0, 0, 0, 0), 5, 0), ((225, .iload_n 2, 1, 0, 0, 0, 0), 1, 2), ((226, .invokevirtual 901, 3, 271, 2, 0, 316), 56, 0), ((229, .ireturn, 1, 0, 0, 0, 0), 1000, 0), ((230, .aload_n 0, 1, 0, 0, 0, 0), 5, 0), ((231, .iload_n 2, 1, 0, 0, 0, 0), 1, 2), ((232, .iload_n 3, 1, 0, 0, 0, 0), 1, 3), ((233, .iload 4, 2, 0, 0, 0, 0), 0, 4), ((235, .bipush 100, 2, 100, 0, 0, 0), 13, 0), ((237, .idiv, 1, 0, 0, 0, 0), 58, 0), ((238, .iload 4, 2, 0, 0, 0, 0), 0, 4)],
  [((240, .bipush 100, 2, 100, 0, 0, 0), 13, 0), ((242, .irem, 1, 0, 0, 0, 0), 58, 0), ((243, .invokevirtual 736, 3, 231, 5, 0, 317), 56, 0), ((246, .ireturn, 1, 0, 0, 0, 0), 1000, 0), ((247, .aload_n 0, 1, 0, 0, 0, 0), 5, 0), ((248, .bipush 9, 2, 9, 0, 0, 0), 13, 0), ((250, .iload_n 2, 1, 0, 0, 0, 0), 1, 2), ((251, .iconst 0, 1, 0, 0, 0, 0), 12, 0), ((252, .iconst 0, 1, 0, 0, 0, 0), 12, 0), ((253, .invokevirtual 682, 3, 30, 5, 0, 269), 56, 0)],
  [((256, .istore 5, 2, 0, 0, 0, 0), 6, 5), ((258, .iconst 1, 1, 1, 0, 0, 0), 12, 0), ((259, .ireturn, 1, 0, 0, 0, 0), 1000, 0), ((260, .aload_n 0, 1, 0, 0, 0, 0), 5, 0), ((261, .iload_n 2, 1, 0, 0, 0, 0), 1, 2), ((262, .iload_n 3, 1, 0, 0, 0, 0), 1, 3), ((263, .iload 4, 2, 0, 0, 0, 0), 0, 4), ((265, .invokevirtual 904, 3, 272, 4, 0, 318), 56, 0), ((268, .ireturn, 1, 0, 0, 0, 0), 1000, 0), ((269, .aload_n 0, 1, 0, 0, 0, 0), 5, 0), ((270, .getfield 36, 3, 0, 21, 20, 51), 50, 0)],
  [((273, .aload_n 0, 1, 0, 0, 0, 0), 5, 0), ((274, .getfield 624, 3, 0, 25, 0, 260), 50, 0), ((277, .iaload, 1, 0, 0, 0, 0), 52, 0), ((278, .bipush 6, 2, 6, 0, 0, 0), 13, 0), ((280, .if_icmp .eq 10, 3, 290, 0, 0, 0), 44, 0), ((283, .aload_n 0, 1, 0, 0, 0, 0), 5, 0), ((284, .invokevirtual 642, 3, 211, 1, 0, 319), 56, 0), ((287, .ifCond .eq 7, 3, 294, 0, 0, 0), 38, 0)],
  [((290, .iconst 1, 1, 1, 0, 0, 0), 12, 0), ((291, .goto 4, 3, 295, 0, 0, 0), 37, 0), ((294, .iconst 0, 1, 0, 0, 0, 0), 12, 0), ((295, .ireturn, 1, 0, 0, 0, 0), 1000, 0)]])
def al_mX12_reload : ev_MeK := (al_yX12_reload, prog_14_method_237_code, 3, none, [[((0, .aload_n 0, 1, 0, 0, 0, 0), 5, 0), ((1, .invokevirtual 1489, 3, 46, 1, 0, 320), 56, 0), ((4, .aload_n 0, 1, 0, 0, 0, 0), 5, 0), ((5, .getfield 131, 3, 0, 72, 20, 84), 50, 0), ((8, .sipush 2001, 3, 2001, 0, 0, 0), 14, 0), ((11, .iconst (-1), 1, 4294967295, 0, 0, 0), 12, 0), ((12, .iastore, 1, 0, 0, 0, 0), 53, 0), ((13, .aload_n 0, 1, 0, 0, 0, 0), 5, 0), ((14, .getfield 134, 3, 0, 73, 20, 85), 50, 0)],
  [((17, .sipush 2001, 3, 2001, 0, 0, 0), 14, 0), ((20, .iconst (-1), 1, 4294967295, 0, 0, 0), 12, 0), ((21, .iastore, 1, 0, 0, 0, 0), 53, 0), ((22, .aload_n 0, 1, 0, 0, 0, 0), 5, 0), ((23, .getfield 128, 3, 0, 71, 20, 83), 50, 0), ((26, .sipush 2001, 3, 2001, 0, 0, 0), 14, 0), ((29, .iconst 0, 1, 0, 0, 0, 0), 12, 0), ((30, .iastore, 1, 0, 0, 0, 0), 53, 0), ((31, .iconst 0, 1, 0, 0, 0, 0), 12, 0)],
  [((32, .istore_n 1, 1, 0, 0, 0, 0), 7, 1), ((33, .iload_n 1, 1, 0, 0, 0, 0), 1, 1), ((34, .bipush 17, 2, 17, 0, 0, 0), 13, 0), ((36, .if_icmp .ge 24, 3, 60, 0, 0, 0), 47, 0), ((39, .aload_n 0, 1, 0, 0, 0, 0), 5, 0), ((40, .sipush 2001, 3, 2001, 0, 0, 0), 14, 0), ((43, .bipush 37, 2, 37, 0, 0, 0), 13, 0), ((45, .iload_n 1, 1, 0, 0, 0, 0), 1, 1), ((46, .iadd, 1, 0, 0, 0, 0), 16, 0), ((47, .bipush 7, 2, 7, 0, 0, 0), 13, 0)],
  [((49, .iload_n 1, 1, 0, 0, 0, 0), 1, 1), ((50, .i2l, 1, 0, 0, 0, 0), 26, 0), ((51, .invokevirtual 1492, 3, 39, 5, 0, 321), 56, 0), ((54, .iinc 1 1, 3, 1, 0, 0, 0), 36, 1), ((57, .goto (-24), 3, 33, 0, 0, 0), 37, 0), ((60, .iconst 0, 1, 0, 0, 0, 0), 12, 0), ((61, .istore_n 1, 1, 0, 0, 0, 0), 7, 1), ((62, .iload_n 1, 1, 0, 0, 0, 0), 1, 1), ((63, .iconst 3, 1, 3, 0, 0, 0), 12, 0)],
  [((64, .if_icmp .ge 29, 3, 93, 0, 0, 0), 47, 0), ((67, .aload_n 0, 1, 0, 0, 0, 0), 5, 0), ((68, .iconst 4, 1, 4, 0, 0, 0), 12, 0), ((69, .invokevirtual 1223, 3, 43, 2, 0, 322), 56, 0), ((72, .istore_n 2, 1, 0, 0, 0, 0), 7, 2), ((73, .aload_n 0, 1, 0, 0, 0, 0), 5, 0), ((74, .sipush 2001, 3, 2001, 0, 0, 0), 14, 0), ((77, .bipush 54, 2, 54, 0, 0, 0), 13, 0), ((79, .iload_n 1, 1, 0, 0, 0, 0), 1, 1)],
  [((80, .iadd, 1, 0, 0, 0, 0), 16, 0), ((81, .iconst 4, 1, 4, 0, 0, 0), 12, 0), ((82, .iload_n 2, 1, 0, 0, 0, 0), 1, 2), ((83, .i2l, 1, 0, 0, 0, 0), 26, 0), ((84, .invokevirtual 1492, 3, 39, 5, 0, 321), 56, 0), ((87, .iinc 1 1, 3, 1, 0, 0, 0), 36, 1), ((90, .goto (-28), 3, 62, 0, 0, 0), 37, 0), ((93, .bipush 17, 2, 17, 0, 0, 0), 13, 0), ((95, .istore_n 1, 1, 0, 0, 0, 0), 7, 1)],
  [((96, .iload_n 1, 1, 0, 0, 0, 0), 1, 1), ((97, .bipush 22, 2, 22, 0, 0, 0), 13, 0), ((99, .if_icmp .ge 25, 3, 124, 0, 0, 0), 47, 0), ((102, .aload_n 0, 1, 0, 0, 0, 0), 5, 0), ((103, .iconst 1, 1, 1, 0, 0, 0), 12, 0), ((104, .bipush 57, 2, 57, 0, 0, 0), 13, 0), ((106, .iload_n 1, 1, 0, 0, 0, 0), 1, 1), ((107, .iadd, 1, 0, 0, 0, 0), 16, 0), ((108, .bipush 17, 2, 17, 0, 0, 0), 13, 0), ((110, .isub, 1, 0, 0, 0, 0), 17, 0), ((111, .bipush 7, 2, 7, 0, 0, 0), 13, 0)],
  [((113, .iload_n 1, 1, 0, 0, 0, 0), 1, 1), ((114, .i2l, 1, 0, 0, 0, 0), 26, 0), ((115, .invokevirtual 1492, 3, 39, 5, 0, 321), 56, 0), ((118, .iinc 1 1, 3, 1, 0, 0, 0), 36, 1), ((121, .goto (-25), 3, 96, 0, 0, 0), 37, 0), ((124, .bipush 22, 2, 22, 0, 0, 0), 13, 0), ((126, .istore_n 1, 1, 0, 0, 0, 0), 7, 1), ((127, .iload_n 1, 1, 0, 0, 0, 0), 1, 1)],
  [((128, .bipush 26, 2, 26, 0, 0, 0), 13, 0), ((130, .if_icmp .ge 25, 3, 155, 0, 0, 0), 47, 0), ((133, .aload_n 0, 1, 0, 0, 0, 0), 5, 0), ((134, .iconst 2, 1, 2, 0, 0, 0), 12, 0), ((135, .bipush 62, 2, 62, 0, 0, 0), 13, 0), ((137, .iload_n 1, 1, 0, 0, 0, 0), 1, 1), ((138, .iadd, 1, 0, 0, 0, 0), 16, 0), ((139, .bipush 22, 2, 22, 0, 0, 0), 13, 0), ((141, .isub, 1, 0, 0, 0, 0), 17, 0), ((142, .bipush 7, 2, 7, 0, 0, 0), 13, 0)],
  [((144, .iload_n 1, 1, 0, 0, 0, 0), 1, 1), ((145, .i2l, 1, 0, 0, 0, 0), 26, 0), ((146, .invokevirtual 1492, 3, 39, 5, 0, 321), 56, 0), ((149, .iinc 1 1, 3, 1, 0, 0, 0), 36, 1), ((152, .goto (-25), 3, 127, 0, 0, 0), 37, 0), ((155, .bipush 26, 2, 26, 0, 0, 0), 13, 0), ((157, .istore_n 1, 1, 0, 0, 0, 0), 7, 1), ((158, .iload_n 1, 1, 0, 0, 0, 0), 1, 1), ((159, .bipush 31, 2, 31, 0, 0, 0), 13, 0)],
  [((161, .if_icmp .ge 47, 3, 208, 0, 0, 0), 47, 0), ((164, .aload_n 0, 1, 0, 0, 0, 0), 5, 0), ((165, .iconst 3, 1, 3, 0, 0, 0), 12, 0), ((166, .iload_n 1, 1, 0, 0, 0, 0), 1, 1), ((167, .bipush 26, 2, 26, 0, 0, 0), 13, 0), ((169, .if_icmp .ne 8, 3, 177, 0, 0, 0), 45, 0), ((172, .bipush 29, 2, 29, 0, 0, 0), 13, 0), ((174, .goto 21, 3, 195, 0, 0, 0), 37, 0)],
  [((177, .iload_n 1, 1, 0, 0, 0, 0), 1, 1), ((178, .bipush 30, 2, 30, 0, 0, 0), 13, 0), ((180, .if_icmp .ne 8, 3, 188, 0, 0, 0), 45, 0), ((183, .bipush 31, 2, 31, 0, 0, 0), 13, 0), ((185, .goto 10, 3, 195, 0, 0, 0), 37, 0), ((188, .bipush 66, 2, 66, 0, 0, 0), 13, 0), ((190, .iload_n 1, 1, 0, 0, 0, 0), 1, 1), ((191, .iadd, 1, 0, 0, 0, 0), 16, 0)],
  [((192, .bipush 27, 2, 27, 0, 0, 0), 13, 0), ((194, .isub, 1, 0, 0, 0, 0), 17, 0), ((195, .bipush 7, 2, 7, 0, 0, 0), 13, 0), ((197, .iload_n 1, 1, 0, 0, 0, 0), 1, 1), ((198, .i2l, 1, 0, 0, 0, 0), 26, 0), ((199, .invokevirtual 1492, 3, 39, 5, 0, 321), 56, 0), ((202, .iinc 1 1, 3, 1, 0, 0, 0), 36, 1), ((205, .goto (-47), 3, 158, 0, 0, 0), 37, 0)],
  [((208, .aload_n 0, 1, 0, 0, 0, 0), 5, 0), ((209, .iconst 0, 1, 0, 0, 0, 0), 12, 0), ((210, .putfield 1078, 3, 0, 111, 0, 323), 51, 0), ((213, .aload_n 0, 1, 0, 0, 0, 0), 5, 0), ((214, .getfield 187, 3, 0, 97, 20, 104), 50, 0), ((217, .iconst 0, 1, 0, 0, 0, 0), 12, 0), ((218, .iconst 2, 1, 2, 0, 0, 0), 12, 0), ((219, .iastore, 1, 0, 0, 0, 0), 53, 0), ((220, .aload_n 0, 1, 0, 0, 0, 0), 5, 0), ((221, .getfield 190, 3, 0, 98, 20, 105), 50, 0)],
  [((224, .iconst 0, 1, 0, 0, 0, 0), 12, 0), ((225, .iconst 0, 1, 0, 0, 0, 0), 12, 0), ((226, .iastore, 1, 0, 0, 0, 0), 53, 0), ((227, .aload_n 0, 1, 0, 0, 0, 0), 5, 0), ((228, .getfield 199, 3, 0, 101, 20, 108), 50, 0), ((231, .iconst 0, 1, 0, 0, 0, 0), 12, 0), ((232, .iconst 0, 1, 0, 0, 0, 0), 12, 0), ((233, .iastore, 1, 0, 0, 0, 0), 53, 0), ((234, .aload_n 0, 1, 0, 0, 0, 0), 5, 0), ((235, .getfield 202, 3, 0, 102, 20, 109), 50, 0), ((238, .iconst 0, 1, 0, 0, 0, 0), 12, 0), ((239, .iconst 0, 1, 0, 0, 0, 0), 12, 0)],
  [((240, .iastore, 1, 0, 0, 0, 0), 53, 0), ((241, .aload_n 0, 1, 0, 0, 0, 0), 5, 0), ((242, .getfield 205, 3, 0, 103, 20, 110), 50, 0), ((245, .iconst 0, 1, 0, 0, 0, 0), 12, 0), ((246, .iconst 0, 1, 0, 0, 0, 0), 12, 0), ((247, .iastore, 1, 0, 0, 0, 0), 53, 0), ((248, .aload_n 0, 1, 0, 0, 0, 0), 5, 0), ((249, .getfield 208, 3, 0, 104, 20, 111), 50, 0), ((252, .iconst 0, 1, 0, 0, 0, 0), 12, 0), ((253, .iconst 0, 1, 0, 0, 0, 0), 12, 0), ((254, .iastore, 1, 0, 0, 0, 0), 53, 0), ((255, .aload_n 0, 1, 0, 0, 0, 0), 5, 0)],
  [((256, .iconst 0, 1, 0, 0, 0, 0), 12, 0), ((257, .putfield 1090, 3, 0, 137, 0, 324), 51, 0), ((260, .aload_n 0, 1, 0, 0, 0, 0), 5, 0), ((261, .iconst 0, 1, 0, 0, 0, 0), 12, 0), ((262, .iconst (-1), 1, 4294967295, 0, 0, 0), 12, 0), ((263, .iconst 0, 1, 0, 0, 0, 0), 12, 0), ((264, .invokevirtual 1114, 3, 44, 4, 0, 325), 56, 0), ((267, .aload_n 0, 1, 0, 0, 0, 0), 5, 0), ((268, .iconst 0, 1, 0, 0, 0, 0), 12, 0), ((269, .iconst 0, 1, 0, 0, 0, 0), 12, 0), ((270, .invokevirtual 1131, 3, 45, 3, 0, 326), 56, 0)],
  [((273, .aload_n 0, 1, 0, 0, 0, 0), 5, 0), ((274, .iconst 0, 1, 0, 0, 0, 0), 12, 0), ((275, .putfield 1024, 3, 0, 129, 0, 327), 51, 0), ((278, .return_, 1, 0, 0, 0, 0), 1000, 0)]])
def al_mX12_fill : ev_MeK := (al_yX12_fill, prog_14_method_235_code, 7, none, [[((0, .aload_n 0, 1, 0, 0, 0, 0), 5, 0), ((1, .iload_n 1, 1, 0, 0, 0, 0), 1, 1), ((2, .iconst 3, 1, 3, 0, 0, 0), 12, 0), ((3, .iload_n 2, 1, 0, 0, 0, 0), 1, 2), ((4, .i2l, 1, 0, 0, 0, 0), 26, 0), ((5, .iload_n 3, 1, 0, 0, 0, 0), 1, 3), ((6, .lload 4, 2, 0, 0, 0, 0), 2, 4), ((8, .invokevirtual 1124, 3, 40, 6, 0, 328), 56, 0), ((11, .istore 6, 2, 0, 0, 0, 0), 6, 6), ((13, .return_, 1, 0, 0, 0, 0), 1000, 0)]])
def al_mX12_set : ev_MeK := (al_yX12_set, prog_14_method_125_code, 10, (some .boolean), [[((0, .aload_n 0, 1, 0, 0, 0, 0), 5, 0), ((1, .iload_n 1, 1, 0, 0, 0, 0), 1, 1), ((2, .iload_n 2, 1, 0, 0, 0, 0), 1, 2), ((3, .lload_n 3, 1, 0, 0, 0, 0), 3, 3), ((4, .invokevirtual 1046, 3, 41, 4, 0, 329), 56, 0), ((7, .istore 8, 2, 0, 0, 0, 0), 6, 8), ((9, .iload 8, 2, 0, 0, 0, 0), 0, 8), ((11, .ifCond .ge 10, 3, 21, 0, 0, 0), 41, 0), ((14, .iload 5, 2, 0, 0, 0, 0), 0, 5)],
  [((16, .ifCond .ne 5, 3, 21, 0, 0, 0), 39, 0), ((19, .iconst 1, 1, 1, 0, 0, 0), 12, 0), ((20, .ireturn, 1, 0, 0, 0, 0), 1000, 0), ((21, .iload 8, 2, 0, 0, 0, 0), 0, 8), ((23, .ifCond .ge 155, 3, 178, 0, 0, 0), 41, 0), ((26, .aload_n 0, 1, 0, 0, 0, 0), 5, 0), ((27, .getfield 1055, 3, 0, 89, 0, 330), 50, 0), ((30, .sipush 3000, 3, 3000, 0, 0, 0), 14, 0)],
  [((33, .if_icmp .ne 10, 3, 43, 0, 0, 0), 45, 0), ((36, .aload_n 0, 1, 0, 0, 0, 0), 5, 0), ((37, .iconst 4, 1, 4, 0, 0, 0), 12, 0), ((38, .putfield 937, 3, 0, 143, 0, 331), 51, 0), ((41, .iconst 0, 1, 0, 0, 0, 0), 12, 0), ((42, .ireturn, 1, 0, 0, 0, 0), 1000, 0), ((43, .aload_n 0, 1, 0, 0, 0, 0), 5, 0), ((44, .dup, 1, 0, 0, 0, 0), 35, 0), ((45, .getfield 1058, 3, 0, 88, 0, 332), 50, 0)],
  [((48, .iconst 1, 1, 1, 0, 0, 0), 12, 0), ((49, .isub, 1, 0, 0, 0, 0), 17, 0), ((50, .putfield 1058, 3, 0, 88, 0, 332), 51, 0), ((53, .aload_n 0, 1, 0, 0, 0, 0), 5, 0), ((54, .getfield 171, 3, 0, 87, 20, 98), 50, 0), ((57, .aload_n 0, 1, 0, 0, 0, 0), 5, 0), ((58, .getfield 1058, 3, 0, 88, 0, 332), 50, 0), ((61, .iaload, 1, 0, 0, 0, 0), 52, 0), ((62, .istore 8, 2, 0, 0, 0, 0), 6, 8)],
  [((64, .aload_n 0, 1, 0, 0, 0, 0), 5, 0), ((65, .dup, 1, 0, 0, 0, 0), 35, 0), ((66, .getfield 1055, 3, 0, 89, 0, 330), 50, 0), ((69, .iconst 1, 1, 1, 0, 0, 0), 12, 0), ((70, .iadd, 1, 0, 0, 0, 0), 16, 0), ((71, .putfield 1055, 3, 0, 89, 0, 330), 51, 0), ((74, .iload_n 1, 1, 0, 0, 0, 0), 1, 1), ((75, .iload_n 2, 1, 0, 0, 0, 0), 1, 2), ((76, .lload_n 3, 1, 0, 0, 0, 0), 3, 3), ((77, .invokestatic 1042, 3, 42, 3, 0, 333), 57, 0)],
  [((80, .istore 9, 2, 0, 0, 0, 0), 6, 9), ((82, .aload_n 0, 1, 0, 0, 0, 0), 5, 0), ((83, .getfield 159, 3, 0, 83, 20, 94), 50, 0), ((86, .iload 8, 2, 0, 0, 0, 0), 0, 8), ((88, .iload_n 1, 1, 0, 0, 0, 0), 1, 1), ((89, .iastore, 1, 0, 0, 0, 0), 53, 0), ((90, .aload_n 0, 1, 0, 0, 0, 0), 5, 0), ((91, .getfield 147, 3, 0, 79, 20, 90), 50, 0), ((94, .iload 8, 2, 0, 0, 0, 0), 0, 8)],
  [((96, .iload_n 2, 1, 0, 0, 0, 0), 1, 2), ((97, .iastore, 1, 0, 0, 0, 0), 53, 0), ((98, .aload_n 0, 1, 0, 0, 0, 0), 5, 0), ((99, .getfield 150, 3, 0, 80, 20, 91), 50, 0), ((102, .iload 8, 2, 0, 0, 0, 0), 0, 8), ((104, .lload_n 3, 1, 0, 0, 0, 0), 3, 3), ((105, .lastore, 1, 0, 0, 0, 0), 58, 0), ((106, .aload_n 0, 1, 0, 0, 0, 0), 5, 0), ((107, .getfield 165, 3, 0, 85, 20, 96), 50, 0), ((110, .iload 8, 2, 0, 0, 0, 0), 0, 8)],
  [((112, .aload_n 0, 1, 0, 0, 0, 0), 5, 0), ((113, .getfield 168, 3, 0, 86, 20, 97), 50, 0), ((116, .iload 9, 2, 0, 0, 0, 0), 0, 9), ((118, .iaload, 1, 0, 0, 0, 0), 52, 0), ((119, .iastore, 1, 0, 0, 0, 0), 53, 0), ((120, .aload_n 0, 1, 0, 0, 0, 0), 5, 0), ((121, .getfield 168, 3, 0, 86, 20, 97), 50, 0), ((124, .iload 9, 2, 0, 0, 0, 0), 0, 9), ((126, .iload 8, 2, 0, 0, 0, 0), 0, 8)],
  [((128, .iastore, 1, 0, 0, 0, 0), 53, 0), ((129, .aload_n 0, 1, 0, 0, 0, 0), 5, 0), ((130, .getfield 162, 3, 0, 84, 20, 95), 50, 0), ((133, .iload 8, 2, 0, 0, 0, 0), 0, 8), ((135, .iconst (-1), 1, 4294967295, 0, 0, 0), 12, 0), ((136, .iastore, 1, 0, 0, 0, 0), 53, 0), ((137, .aload_n 0, 1, 0, 0, 0, 0), 5, 0), ((138, .getfield 131, 3, 0, 72, 20, 84), 50, 0), ((141, .iload_n 1, 1, 0, 0, 0, 0), 1, 1), ((142, .iaload, 1, 0, 0, 0, 0), 52, 0), ((143, .ifCond .ge 14, 3, 157, 0, 0, 0), 41, 0)],
  [((146, .aload_n 0, 1, 0, 0, 0, 0), 5, 0), ((147, .getfield 131, 3, 0, 72, 20, 84), 50, 0), ((150, .iload_n 1, 1, 0, 0, 0, 0), 1, 1), ((151, .iload 8, 2, 0, 0, 0, 0), 0, 8), ((153, .iastore, 1, 0, 0, 0, 0), 53, 0), ((154, .goto 16, 3, 170, 0, 0, 0), 37, 0), ((157, .aload_n 0, 1, 0, 0, 0, 0), 5, 0), ((158, .getfield 162, 3, 0, 84, 20, 95), 50, 0)],
  [((161, .aload_n 0, 1, 0, 0, 0, 0), 5, 0), ((162, .getfield 134, 3, 0, 73, 20, 85), 50, 0), ((165, .iload_n 1, 1, 0, 0, 0, 0), 1, 1), ((166, .iaload, 1, 0, 0, 0, 0), 52, 0), ((167, .iload 8, 2, 0, 0, 0, 0), 0, 8), ((169, .iastore, 1, 0, 0, 0, 0), 53, 0), ((170, .aload_n 0, 1, 0, 0, 0, 0), 5, 0), ((171, .getfield 134, 3, 0, 73, 20, 85), 50, 0), ((174, .iload_n 1, 1, 0, 0, 0, 0), 1, 1), ((175, .iload 8, 2, 0, 0, 0, 0), 0, 8)],
  [((177, .iastore, 1, 0, 0, 0, 0), 53, 0), ((178, .aload_n 0, 1, 0, 0, 0, 0), 5, 0), ((179, .getfield 153, 3, 0, 81, 20, 92), 50, 0), ((182, .iload 8, 2, 0, 0, 0, 0), 0, 8), ((184, .iload 5, 2, 0, 0, 0, 0), 0, 5), ((186, .iastore, 1, 0, 0, 0, 0), 53, 0), ((187, .aload_n 0, 1, 0, 0, 0, 0), 5, 0), ((188, .getfield 156, 3, 0, 82, 20, 93), 50, 0), ((191, .iload 8, 2, 0, 0, 0, 0), 0, 8)],
  [((193, .lload 6, 2, 0, 0, 0, 0), 2, 6), ((195, .lastore, 1, 0, 0, 0, 0), 58, 0), ((196, .iconst 1, 1, 1, 0, 0, 0), 12, 0), ((197, .ireturn, 1, 0, 0, 0, 0), 1000, 0)]])
def al_mX12_placeOf : ev_MeK := (al_yX12_placeOf, prog_14_method_123_code, 6, (some .int), [[((0, .aload_n 0, 1, 0, 0, 0, 0), 5, 0), ((1, .getfield 168, 3, 0, 86, 20, 97), 50, 0), ((4, .iload_n 1, 1, 0, 0, 0, 0), 1, 1), ((5, .iload_n 2, 1, 0, 0, 0, 0), 1, 2), ((6, .lload_n 3, 1, 0, 0, 0, 0), 3, 3), ((7, .invokestatic 1042, 3, 42, 3, 0, 333), 57, 0), ((10, .iaload, 1, 0, 0, 0, 0), 52, 0), ((11, .istore 5, 2, 0, 0, 0, 0), 6, 5), ((13, .iload 5, 2, 0, 0, 0, 0), 0, 5), ((15, .ifCond .lt 52, 3, 67, 0, 0, 0), 40, 0)],
  [((18, .aload_n 0, 1, 0, 0, 0, 0), 5, 0), ((19, .getfield 159, 3, 0, 83, 20, 94), 50, 0), ((22, .iload 5, 2, 0, 0, 0, 0), 0, 5), ((24, .iaload, 1, 0, 0, 0, 0), 52, 0), ((25, .iload_n 1, 1, 0, 0, 0, 0), 1, 1), ((26, .if_icmp .ne 29, 3, 55, 0, 0, 0), 45, 0), ((29, .aload_n 0, 1, 0, 0, 0, 0), 5, 0), ((30, .getfield 147, 3, 0, 79, 20, 90), 50, 0)],
  [((33, .iload 5, 2, 0, 0, 0, 0), 0, 5), ((35, .iaload, 1, 0, 0, 0, 0), 52, 0), ((36, .iload_n 2, 1, 0, 0, 0, 0), 1, 2), ((37, .if_icmp .ne 18, 3, 55, 0, 0, 0), 45, 0), ((40, .aload_n 0, 1, 0, 0, 0, 0), 5, 0), ((41, .getfield 150, 3, 0, 80, 20, 91), 50, 0), ((44, .iload 5, 2, 0, 0, 0, 0), 0, 5), ((46, .laload, 1, 0, 0, 0, 0), 58, 0), ((47, .lload_n 3, 1, 0, 0, 0, 0), 3, 3)],
  [((48, .lcmp, 1, 0, 0, 0, 0), 32, 0), ((49, .ifCond .ne 6, 3, 55, 0, 0, 0), 39, 0), ((52, .iload 5, 2, 0, 0, 0, 0), 0, 5), ((54, .ireturn, 1, 0, 0, 0, 0), 1000, 0), ((55, .aload_n 0, 1, 0, 0, 0, 0), 5, 0), ((56, .getfield 165, 3, 0, 85, 20, 96), 50, 0), ((59, .iload 5, 2, 0, 0, 0, 0), 0, 5), ((61, .iaload, 1, 0, 0, 0, 0), 52, 0), ((62, .istore 5, 2, 0, 0, 0, 0), 6, 5)],
  [((64, .goto (-51), 3, 13, 0, 0, 0), 37, 0), ((67, .iconst (-1), 1, 4294967295, 0, 0, 0), 12, 0), ((68, .ireturn, 1, 0, 0, 0, 0), 1000, 0)]])
def al_mX12_keyHash : ev_MeK := (al_yX12_keyHash, prog_14_method_122_code, 6, (some .int), [[((0, .lload_n 2, 1, 0, 0, 0, 0), 3, 2), ((1, .ldc2_w 1036, 3, 31, 0, 0, 334), 58, 0), ((4, .lmul, 1, 0, 0, 0, 0), 29, 0), ((5, .iload_n 1, 1, 0, 0, 0, 0), 1, 1), ((6, .i2l, 1, 0, 0, 0, 0), 26, 0), ((7, .ldc2_w 1038, 3, 7, 0, 0, 335), 58, 0), ((10, .lmul, 1, 0, 0, 0, 0), 29, 0), ((11, .ladd, 1, 0, 0, 0, 0), 27, 0), ((12, .iload_n 0, 1, 0, 0, 0, 0), 1, 0), ((13, .i2l, 1, 0, 0, 0, 0), 26, 0), ((14, .ldc2_w 1040, 3, 131, 0, 0, 336), 58, 0)],
  [((17, .lmul, 1, 0, 0, 0, 0), 29, 0), ((18, .ladd, 1, 0, 0, 0, 0), 27, 0), ((19, .lstore 4, 2, 0, 0, 0, 0), 8, 4), ((21, .lload 4, 2, 0, 0, 0, 0), 2, 4), ((23, .lload 4, 2, 0, 0, 0, 0), 2, 4), ((25, .bipush 17, 2, 17, 0, 0, 0), 13, 0), ((27, .lushr, 1, 0, 0, 0, 0), 34, 0), ((28, .lxor, 1, 0, 0, 0, 0), 31, 0), ((29, .lload 4, 2, 0, 0, 0, 0), 2, 4), ((31, .bipush 34, 2, 34, 0, 0, 0), 13, 0)],
  [((33, .lushr, 1, 0, 0, 0, 0), 34, 0), ((34, .lxor, 1, 0, 0, 0, 0), 31, 0), ((35, .l2i, 1, 0, 0, 0, 0), 33, 0), ((36, .sipush 4095, 3, 4095, 0, 0, 0), 14, 0), ((39, .iand, 1, 0, 0, 0, 0), 19, 0), ((40, .ireturn, 1, 0, 0, 0, 0), 1000, 0)]])
def al_mX12_object : ev_MeK := (al_yX12_object, prog_14_method_128_code, 2, (some .int), [[((0, .aload_n 0, 1, 0, 0, 0, 0), 5, 0), ((1, .getfield 1065, 3, 0, 77, 0, 337), 50, 0), ((4, .sipush 2000, 3, 2000, 0, 0, 0), 14, 0), ((7, .if_icmp .ne 10, 3, 17, 0, 0, 0), 45, 0), ((10, .aload_n 0, 1, 0, 0, 0, 0), 5, 0), ((11, .iconst 4, 1, 4, 0, 0, 0), 12, 0), ((12, .putfield 937, 3, 0, 143, 0, 331), 51, 0), ((15, .iconst 0, 1, 0, 0, 0, 0), 12, 0)],
  [((16, .ireturn, 1, 0, 0, 0, 0), 1000, 0), ((17, .aload_n 0, 1, 0, 0, 0, 0), 5, 0), ((18, .dup, 1, 0, 0, 0, 0), 35, 0), ((19, .getfield 1065, 3, 0, 77, 0, 337), 50, 0), ((22, .iconst 1, 1, 1, 0, 0, 0), 12, 0), ((23, .iadd, 1, 0, 0, 0, 0), 16, 0), ((24, .putfield 1065, 3, 0, 77, 0, 337), 51, 0), ((27, .aload_n 0, 1, 0, 0, 0, 0), 5, 0), ((28, .getfield 125, 3, 0, 70, 20, 82), 50, 0), ((31, .aload_n 0, 1, 0, 0, 0, 0), 5, 0)],
  [((32, .getfield 1065, 3, 0, 77, 0, 337), 50, 0), ((35, .iload_n 1, 1, 0, 0, 0, 0), 1, 1), ((36, .iastore, 1, 0, 0, 0, 0), 53, 0), ((37, .aload_n 0, 1, 0, 0, 0, 0), 5, 0), ((38, .getfield 128, 3, 0, 71, 20, 83), 50, 0), ((41, .aload_n 0, 1, 0, 0, 0, 0), 5, 0), ((42, .getfield 1065, 3, 0, 77, 0, 337), 50, 0), ((45, .iconst 0, 1, 0, 0, 0, 0), 12, 0), ((46, .iastore, 1, 0, 0, 0, 0), 53, 0), ((47, .aload_n 0, 1, 0, 0, 0, 0), 5, 0)],
  [((48, .getfield 131, 3, 0, 72, 20, 84), 50, 0), ((51, .aload_n 0, 1, 0, 0, 0, 0), 5, 0), ((52, .getfield 1065, 3, 0, 77, 0, 337), 50, 0), ((55, .iconst (-1), 1, 4294967295, 0, 0, 0), 12, 0), ((56, .iastore, 1, 0, 0, 0, 0), 53, 0), ((57, .aload_n 0, 1, 0, 0, 0, 0), 5, 0), ((58, .getfield 134, 3, 0, 73, 20, 85), 50, 0), ((61, .aload_n 0, 1, 0, 0, 0, 0), 5, 0), ((62, .getfield 1065, 3, 0, 77, 0, 337), 50, 0)],
  [((65, .iconst (-1), 1, 4294967295, 0, 0, 0), 12, 0), ((66, .iastore, 1, 0, 0, 0, 0), 53, 0), ((67, .aload_n 0, 1, 0, 0, 0, 0), 5, 0), ((68, .getfield 137, 3, 0, 74, 20, 86), 50, 0), ((71, .aload_n 0, 1, 0, 0, 0, 0), 5, 0), ((72, .getfield 1065, 3, 0, 77, 0, 337), 50, 0), ((75, .lconst 0, 1, 0, 0, 0, 0), 15, 0), ((76, .lastore, 1, 0, 0, 0, 0), 58, 0), ((77, .aload_n 0, 1, 0, 0, 0, 0), 5, 0), ((78, .getfield 1065, 3, 0, 77, 0, 337), 50, 0)],
  [((81, .ireturn, 1, 0, 0, 0, 0), 1000, 0)]])
def al_mX12_how : ev_MeK := (al_yX12_how, prog_14_method_145_code, 4, none, [[((0, .aload_n 0, 1, 0, 0, 0, 0), 5, 0), ((1, .iload_n 1, 1, 0, 0, 0, 0), 1, 1), ((2, .putfield 1093, 3, 0, 130, 0, 338), 51, 0), ((5, .aload_n 0, 1, 0, 0, 0, 0), 5, 0), ((6, .iload_n 2, 1, 0, 0, 0, 0), 1, 2), ((7, .putfield 1096, 3, 0, 131, 0, 339), 51, 0), ((10, .aload_n 0, 1, 0, 0, 0, 0), 5, 0), ((11, .iload_n 3, 1, 0, 0, 0, 0), 1, 3), ((12, .putfield 1033, 3, 0, 132, 0, 340), 51, 0), ((15, .return_, 1, 0, 0, 0, 0), 1000, 0)]])
def al_mX12_openFrame : ev_MeK := (al_yX12_openFrame, prog_14_method_149_code, 5, none, [[((0, .bipush 48, 2, 48, 0, 0, 0), 13, 0), ((2, .aload_n 0, 1, 0, 0, 0, 0), 5, 0), ((3, .getfield 1078, 3, 0, 111, 0, 323), 50, 0), ((6, .imul, 1, 0, 0, 0, 0), 18, 0), ((7, .aload_n 0, 1, 0, 0, 0, 0), 5, 0), ((8, .getfield 199, 3, 0, 101, 20, 108), 50, 0), ((11, .aload_n 0, 1, 0, 0, 0, 0), 5, 0), ((12, .getfield 1078, 3, 0, 111, 0, 323), 50, 0), ((15, .iaload, 1, 0, 0, 0, 0), 52, 0)],
  [((16, .iadd, 1, 0, 0, 0, 0), 16, 0), ((17, .istore_n 3, 1, 0, 0, 0, 0), 7, 3), ((18, .aload_n 0, 1, 0, 0, 0, 0), 5, 0), ((19, .getfield 199, 3, 0, 101, 20, 108), 50, 0), ((22, .aload_n 0, 1, 0, 0, 0, 0), 5, 0), ((23, .getfield 1078, 3, 0, 111, 0, 323), 50, 0), ((26, .dup2, 1, 0, 0, 0, 0), 58, 0), ((27, .iaload, 1, 0, 0, 0, 0), 52, 0), ((28, .iconst 1, 1, 1, 0, 0, 0), 12, 0), ((29, .iadd, 1, 0, 0, 0, 0), 16, 0), ((30, .iastore, 1, 0, 0, 0, 0), 53, 0), ((31, .aload_n 0, 1, 0, 0, 0, 0), 5, 0)],
  [((32, .getfield 208, 3, 0, 104, 20, 111), 50, 0), ((35, .aload_n 0, 1, 0, 0, 0, 0), 5, 0), ((36, .getfield 1078, 3, 0, 111, 0, 323), 50, 0), ((39, .dup2, 1, 0, 0, 0, 0), 58, 0), ((40, .iaload, 1, 0, 0, 0, 0), 52, 0), ((41, .iconst 1, 1, 1, 0, 0, 0), 12, 0), ((42, .iadd, 1, 0, 0, 0, 0), 16, 0), ((43, .iastore, 1, 0, 0, 0, 0), 53, 0), ((44, .aload_n 0, 1, 0, 0, 0, 0), 5, 0), ((45, .getfield 237, 3, 0, 115, 20, 122), 50, 0)],
  [((48, .iload_n 3, 1, 0, 0, 0, 0), 1, 3), ((49, .iconst 0, 1, 0, 0, 0, 0), 12, 0), ((50, .iastore, 1, 0, 0, 0, 0), 53, 0), ((51, .aload_n 0, 1, 0, 0, 0, 0), 5, 0), ((52, .getfield 240, 3, 0, 116, 20, 123), 50, 0), ((55, .iload_n 3, 1, 0, 0, 0, 0), 1, 3), ((56, .iload_n 1, 1, 0, 0, 0, 0), 1, 1), ((57, .iastore, 1, 0, 0, 0, 0), 53, 0), ((58, .aload_n 0, 1, 0, 0, 0, 0), 5, 0), ((59, .getfield 243, 3, 0, 117, 20, 124), 50, 0), ((62, .iload_n 3, 1, 0, 0, 0, 0), 1, 3), ((63, .iload_n 2, 1, 0, 0, 0, 0), 1, 2)],
  [((64, .iastore, 1, 0, 0, 0, 0), 53, 0), ((65, .aload_n 0, 1, 0, 0, 0, 0), 5, 0), ((66, .getfield 246, 3, 0, 118, 20, 125), 50, 0), ((69, .iload_n 3, 1, 0, 0, 0, 0), 1, 3), ((70, .aload_n 0, 1, 0, 0, 0, 0), 5, 0), ((71, .getfield 46, 3, 0, 26, 20, 55), 50, 0), ((74, .iload_n 1, 1, 0, 0, 0, 0), 1, 1), ((75, .iaload, 1, 0, 0, 0, 0), 52, 0), ((76, .iastore, 1, 0, 0, 0, 0), 53, 0), ((77, .aload_n 0, 1, 0, 0, 0, 0), 5, 0), ((78, .getfield 249, 3, 0, 119, 20, 126), 50, 0)],
  [((81, .iload_n 3, 1, 0, 0, 0, 0), 1, 3), ((82, .aload_n 0, 1, 0, 0, 0, 0), 5, 0), ((83, .getfield 1093, 3, 0, 130, 0, 338), 50, 0), ((86, .iastore, 1, 0, 0, 0, 0), 53, 0), ((87, .aload_n 0, 1, 0, 0, 0, 0), 5, 0), ((88, .getfield 252, 3, 0, 120, 20, 127), 50, 0), ((91, .iload_n 3, 1, 0, 0, 0, 0), 1, 3), ((92, .aload_n 0, 1, 0, 0, 0, 0), 5, 0), ((93, .getfield 1096, 3, 0, 131, 0, 339), 50, 0)],
  [((96, .iastore, 1, 0, 0, 0, 0), 53, 0), ((97, .aload_n 0, 1, 0, 0, 0, 0), 5, 0), ((98, .getfield 255, 3, 0, 121, 20, 128), 50, 0), ((101, .iload_n 3, 1, 0, 0, 0, 0), 1, 3), ((102, .aload_n 0, 1, 0, 0, 0, 0), 5, 0), ((103, .getfield 202, 3, 0, 102, 20, 109), 50, 0), ((106, .aload_n 0, 1, 0, 0, 0, 0), 5, 0), ((107, .getfield 1078, 3, 0, 111, 0, 323), 50, 0), ((110, .iaload, 1, 0, 0, 0, 0), 52, 0), ((111, .iastore, 1, 0, 0, 0, 0), 53, 0)],
  [((112, .aload_n 0, 1, 0, 0, 0, 0), 5, 0), ((113, .getfield 258, 3, 0, 122, 20, 129), 50, 0), ((116, .iload_n 3, 1, 0, 0, 0, 0), 1, 3), ((117, .aload_n 0, 1, 0, 0, 0, 0), 5, 0), ((118, .getfield 205, 3, 0, 103, 20, 110), 50, 0), ((121, .aload_n 0, 1, 0, 0, 0, 0), 5, 0), ((122, .getfield 1078, 3, 0, 111, 0, 323), 50, 0), ((125, .iaload, 1, 0, 0, 0, 0), 52, 0), ((126, .iastore, 1, 0, 0, 0, 0), 53, 0), ((127, .aload_n 0, 1, 0, 0, 0, 0), 5, 0)],
  [((128, .getfield 261, 3, 0, 123, 20, 130), 50, 0), ((131, .iload_n 3, 1, 0, 0, 0, 0), 1, 3), ((132, .iconst 0, 1, 0, 0, 0, 0), 12, 0), ((133, .iastore, 1, 0, 0, 0, 0), 53, 0), ((134, .iconst 0, 1, 0, 0, 0, 0), 12, 0), ((135, .istore 4, 2, 0, 0, 0, 0), 6, 4), ((137, .iload 4, 2, 0, 0, 0, 0), 0, 4), ((139, .bipush 50, 2, 50, 0, 0, 0), 13, 0), ((141, .if_icmp .ge 22, 3, 163, 0, 0, 0), 47, 0)],
  [((144, .aload_n 0, 1, 0, 0, 0, 0), 5, 0), ((145, .getfield 277, 3, 0, 128, 20, 136), 50, 0), ((148, .bipush 50, 2, 50, 0, 0, 0), 13, 0), ((150, .iload_n 3, 1, 0, 0, 0, 0), 1, 3), ((151, .imul, 1, 0, 0, 0, 0), 18, 0), ((152, .iload 4, 2, 0, 0, 0, 0), 0, 4), ((154, .iadd, 1, 0, 0, 0, 0), 16, 0), ((155, .iconst (-1), 1, 4294967295, 0, 0, 0), 12, 0), ((156, .iastore, 1, 0, 0, 0, 0), 53, 0), ((157, .iinc 4 1, 3, 1, 0, 0, 0), 36, 4)],
  [((160, .goto (-23), 3, 137, 0, 0, 0), 37, 0), ((163, .iconst 0, 1, 0, 0, 0, 0), 12, 0), ((164, .istore 4, 2, 0, 0, 0, 0), 6, 4), ((166, .iload 4, 2, 0, 0, 0, 0), 0, 4), ((168, .aload_n 0, 1, 0, 0, 0, 0), 5, 0), ((169, .getfield 49, 3, 0, 27, 20, 56), 50, 0), ((172, .iload_n 1, 1, 0, 0, 0, 0), 1, 1), ((173, .iaload, 1, 0, 0, 0, 0), 52, 0), ((174, .if_icmp .ge 57, 3, 231, 0, 0, 0), 47, 0)],
  [((177, .aload_n 0, 1, 0, 0, 0, 0), 5, 0), ((178, .getfield 277, 3, 0, 128, 20, 136), 50, 0), ((181, .bipush 50, 2, 50, 0, 0, 0), 13, 0), ((183, .iload_n 3, 1, 0, 0, 0, 0), 1, 3), ((184, .imul, 1, 0, 0, 0, 0), 18, 0), ((185, .iload 4, 2, 0, 0, 0, 0), 0, 4), ((187, .iadd, 1, 0, 0, 0, 0), 16, 0), ((188, .iload 4, 2, 0, 0, 0, 0), 0, 4), ((190, .aload_n 0, 1, 0, 0, 0, 0), 5, 0), ((191, .getfield 1090, 3, 0, 137, 0, 324), 50, 0)],
  [((194, .if_icmp .ge 24, 3, 218, 0, 0, 0), 47, 0), ((197, .aload_n 0, 1, 0, 0, 0, 0), 5, 0), ((198, .aload_n 0, 1, 0, 0, 0, 0), 5, 0), ((199, .getfield 280, 3, 0, 135, 20, 137), 50, 0), ((202, .iload 4, 2, 0, 0, 0, 0), 0, 4), ((204, .iaload, 1, 0, 0, 0, 0), 52, 0), ((205, .aload_n 0, 1, 0, 0, 0, 0), 5, 0), ((206, .getfield 283, 3, 0, 136, 20, 138), 50, 0)],
  [((209, .iload 4, 2, 0, 0, 0, 0), 0, 4), ((211, .laload, 1, 0, 0, 0, 0), 58, 0), ((215, .goto 9, 3, 224, 0, 0, 0), 37, 0), ((218, .aload_n 0, 1, 0, 0, 0, 0), 5, 0), ((219, .iconst 0, 1, 0, 0, 0, 0), 12, 0), ((220, .lconst 0, 1, 0, 0, 0, 0), 15, 0)],
  [((224, .iastore, 1, 0, 0, 0, 0), 53, 0), ((225, .iinc 4 1, 3, 1, 0, 0, 0), 36, 4), ((228, .goto (-62), 3, 166, 0, 0, 0), 37, 0), ((231, .aload_n 0, 1, 0, 0, 0, 0), 5, 0), ((232, .getfield 49, 3, 0, 27, 20, 56), 50, 0), ((235, .iload_n 1, 1, 0, 0, 0, 0), 1, 1), ((236, .iaload, 1, 0, 0, 0, 0), 52, 0), ((237, .istore 4, 2, 0, 0, 0, 0), 6, 4), ((239, .iload 4, 2, 0, 0, 0, 0), 0, 4)],
  [((241, .aload_n 0, 1, 0, 0, 0, 0), 5, 0), ((242, .getfield 1090, 3, 0, 137, 0, 324), 50, 0), ((245, .if_icmp .ge 46, 3, 291, 0, 0, 0), 47, 0), ((248, .aload_n 0, 1, 0, 0, 0, 0), 5, 0), ((249, .getfield 58, 3, 0, 30, 20, 60), 50, 0), ((252, .iload_n 1, 1, 0, 0, 0, 0), 1, 1), ((253, .baload, 1, 0, 0, 0, 0), 54, 0), ((254, .ifCond .eq 37, 3, 291, 0, 0, 0), 38, 0)],
  [((257, .aload_n 0, 1, 0, 0, 0, 0), 5, 0), ((258, .aload_n 0, 1, 0, 0, 0, 0), 5, 0), ((259, .getfield 280, 3, 0, 135, 20, 137), 50, 0), ((262, .iload 4, 2, 0, 0, 0, 0), 0, 4), ((264, .iaload, 1, 0, 0, 0, 0), 52, 0), ((265, .aload_n 0, 1, 0, 0, 0, 0), 5, 0), ((266, .getfield 283, 3, 0, 136, 20, 138), 50, 0), ((269, .iload 4, 2, 0, 0, 0, 0), 0, 4), ((271, .laload, 1, 0, 0, 0, 0), 58, 0)],
  [((275, .aload_n 0, 1, 0, 0, 0, 0), 5, 0), ((276, .getfield 261, 3, 0, 123, 20, 130), 50, 0), ((279, .iload_n 3, 1, 0, 0, 0, 0), 1, 3), ((280, .dup2, 1, 0, 0, 0, 0), 58, 0), ((281, .iaload, 1, 0, 0, 0, 0), 52, 0), ((282, .iconst 1, 1, 1, 0, 0, 0), 12, 0), ((283, .iadd, 1, 0, 0, 0, 0), 16, 0), ((284, .iastore, 1, 0, 0, 0, 0), 53, 0), ((285, .iinc 4 1, 3, 1, 0, 0, 0), 36, 4)],
  [((288, .goto (-49), 3, 239, 0, 0, 0), 37, 0), ((291, .return_, 1, 0, 0, 0, 0), 1000, 0)]])
def al_mX12_forget : ev_MeK := (al_yX12_forget, prog_14_method_236_code, 2, none, [[((0, .aload_n 0, 1, 0, 0, 0, 0), 5, 0), ((1, .aload_n 0, 1, 0, 0, 0, 0), 5, 0), ((2, .getfield 922, 3, 0, 15, 0, 243), 50, 0), ((5, .aload_n 0, 1, 0, 0, 0, 0), 5, 0), ((6, .getfield 925, 3, 0, 16, 0, 244), 50, 0), ((9, .invokevirtual 910, 3, 25, 3, 0, 236), 56, 0), ((12, .iconst 0, 1, 0, 0, 0, 0), 12, 0), ((13, .istore_n 1, 1, 0, 0, 0, 0), 7, 1), ((14, .iload_n 1, 1, 0, 0, 0, 0), 1, 1), ((15, .aload_n 0, 1, 0, 0, 0, 0), 5, 0)],
  [((16, .getfield 922, 3, 0, 15, 0, 243), 50, 0), ((19, .if_icmp .ge 35, 3, 54, 0, 0, 0), 47, 0), ((22, .aload_n 0, 1, 0, 0, 0, 0), 5, 0), ((23, .getfield 24, 3, 0, 11, 20, 47), 50, 0), ((26, .iload_n 1, 1, 0, 0, 0, 0), 1, 1), ((27, .aload_n 0, 1, 0, 0, 0, 0), 5, 0), ((28, .getfield 24, 3, 0, 11, 20, 47), 50, 0), ((31, .iload_n 1, 1, 0, 0, 0, 0), 1, 1)],
  [((32, .iaload, 1, 0, 0, 0, 0), 52, 0), ((33, .iconst 2, 1, 2, 0, 0, 0), 12, 0), ((34, .if_icmp .ne 7, 3, 41, 0, 0, 0), 45, 0), ((37, .iconst 0, 1, 0, 0, 0, 0), 12, 0), ((38, .goto 9, 3, 47, 0, 0, 0), 37, 0), ((41, .aload_n 0, 1, 0, 0, 0, 0), 5, 0), ((42, .getfield 24, 3, 0, 11, 20, 47), 50, 0), ((45, .iload_n 1, 1, 0, 0, 0, 0), 1, 1), ((46, .iaload, 1, 0, 0, 0, 0), 52, 0), ((47, .iastore, 1, 0, 0, 0, 0), 53, 0)],
  [((48, .iinc 1 1, 3, 1, 0, 0, 0), 36, 1), ((51, .goto (-37), 3, 14, 0, 0, 0), 37, 0), ((54, .aload_n 0, 1, 0, 0, 0, 0), 5, 0), ((55, .iconst 0, 1, 0, 0, 0, 0), 12, 0), ((56, .putfield 931, 3, 0, 17, 0, 341), 51, 0), ((59, .aload_n 0, 1, 0, 0, 0, 0), 5, 0), ((60, .iconst 0, 1, 0, 0, 0, 0), 12, 0), ((61, .putfield 934, 3, 0, 18, 0, 342), 51, 0)],
  [((64, .iconst 0, 1, 0, 0, 0, 0), 12, 0), ((65, .istore_n 1, 1, 0, 0, 0, 0), 7, 1), ((66, .iload_n 1, 1, 0, 0, 0, 0), 1, 1), ((67, .sipush 4096, 3, 4096, 0, 0, 0), 14, 0), ((70, .if_icmp .ge 16, 3, 86, 0, 0, 0), 47, 0), ((73, .aload_n 0, 1, 0, 0, 0, 0), 5, 0), ((74, .getfield 168, 3, 0, 86, 20, 97), 50, 0), ((77, .iload_n 1, 1, 0, 0, 0, 0), 1, 1), ((78, .iconst (-1), 1, 4294967295, 0, 0, 0), 12, 0), ((79, .iastore, 1, 0, 0, 0, 0), 53, 0)],
  [((80, .iinc 1 1, 3, 1, 0, 0, 0), 36, 1), ((83, .goto (-17), 3, 66, 0, 0, 0), 37, 0), ((86, .aload_n 0, 1, 0, 0, 0, 0), 5, 0), ((87, .iconst 0, 1, 0, 0, 0, 0), 12, 0), ((88, .putfield 1058, 3, 0, 88, 0, 332), 51, 0), ((91, .sipush 2999, 3, 2999, 0, 0, 0), 14, 0), ((94, .istore_n 1, 1, 0, 0, 0, 0), 7, 1), ((95, .iload_n 1, 1, 0, 0, 0, 0), 1, 1)],
  [((96, .ifCond .lt 29, 3, 125, 0, 0, 0), 40, 0), ((99, .aload_n 0, 1, 0, 0, 0, 0), 5, 0), ((100, .getfield 171, 3, 0, 87, 20, 98), 50, 0), ((103, .aload_n 0, 1, 0, 0, 0, 0), 5, 0), ((104, .getfield 1058, 3, 0, 88, 0, 332), 50, 0), ((107, .iload_n 1, 1, 0, 0, 0, 0), 1, 1), ((108, .iastore, 1, 0, 0, 0, 0), 53, 0), ((109, .aload_n 0, 1, 0, 0, 0, 0), 5, 0), ((110, .dup, 1, 0, 0, 0, 0), 35, 0), ((111, .getfield 1058, 3, 0, 88, 0, 332), 50, 0)],
  [((114, .iconst 1, 1, 1, 0, 0, 0), 12, 0), ((115, .iadd, 1, 0, 0, 0, 0), 16, 0), ((116, .putfield 1058, 3, 0, 88, 0, 332), 51, 0), ((119, .iinc 1 (-1), 3, 4294967295, 0, 0, 0), 36, 1), ((122, .goto (-27), 3, 95, 0, 0, 0), 37, 0), ((125, .aload_n 0, 1, 0, 0, 0, 0), 5, 0), ((126, .iconst 0, 1, 0, 0, 0, 0), 12, 0), ((127, .putfield 1055, 3, 0, 89, 0, 330), 51, 0)],
  [((130, .aload_n 0, 1, 0, 0, 0, 0), 5, 0), ((131, .iconst 0, 1, 0, 0, 0, 0), 12, 0), ((132, .putfield 1071, 3, 0, 96, 0, 343), 51, 0), ((135, .ldc_w 1077, 3, 94999, 0, 0, 344), 58, 0), ((138, .istore_n 1, 1, 0, 0, 0, 0), 7, 1), ((139, .iload_n 1, 1, 0, 0, 0, 0), 1, 1), ((140, .ifCond .lt 29, 3, 169, 0, 0, 0), 40, 0), ((143, .aload_n 0, 1, 0, 0, 0, 0), 5, 0)],
  [((144, .getfield 184, 3, 0, 95, 20, 103), 50, 0), ((147, .aload_n 0, 1, 0, 0, 0, 0), 5, 0), ((148, .getfield 1071, 3, 0, 96, 0, 343), 50, 0), ((151, .iload_n 1, 1, 0, 0, 0, 0), 1, 1), ((152, .iastore, 1, 0, 0, 0, 0), 53, 0), ((153, .aload_n 0, 1, 0, 0, 0, 0), 5, 0), ((154, .dup, 1, 0, 0, 0, 0), 35, 0), ((155, .getfield 1071, 3, 0, 96, 0, 343), 50, 0), ((158, .iconst 1, 1, 1, 0, 0, 0), 12, 0), ((159, .iadd, 1, 0, 0, 0, 0), 16, 0)],
  [((160, .putfield 1071, 3, 0, 96, 0, 343), 51, 0), ((163, .iinc 1 (-1), 3, 4294967295, 0, 0, 0), 36, 1), ((166, .goto (-27), 3, 139, 0, 0, 0), 37, 0), ((169, .aload_n 0, 1, 0, 0, 0, 0), 5, 0), ((170, .iconst 0, 1, 0, 0, 0, 0), 12, 0), ((171, .putfield 1065, 3, 0, 77, 0, 337), 51, 0), ((174, .aload_n 0, 1, 0, 0, 0, 0), 5, 0), ((175, .lconst 0, 1, 0, 0, 0, 0), 15, 0)],
  [((176, .putfield 1342, 3, 0, 78, 10, 345), 51, 0), ((179, .aload_n 0, 1, 0, 0, 0, 0), 5, 0), ((180, .iconst 0, 1, 0, 0, 0, 0), 12, 0), ((181, .putfield 1068, 3, 0, 110, 0, 346), 51, 0), ((184, .aload_n 0, 1, 0, 0, 0, 0), 5, 0), ((185, .iconst 0, 1, 0, 0, 0, 0), 12, 0), ((186, .putfield 1468, 3, 0, 152, 0, 347), 51, 0), ((189, .aload_n 0, 1, 0, 0, 0, 0), 5, 0), ((190, .iconst 0, 1, 0, 0, 0, 0), 12, 0), ((191, .putfield 1486, 3, 0, 153, 0, 348), 51, 0)],
  [((194, .aload_n 0, 1, 0, 0, 0, 0), 5, 0), ((195, .iconst 0, 1, 0, 0, 0, 0), 12, 0), ((196, .putfield 1324, 3, 0, 150, 0, 349), 51, 0), ((199, .aload_n 0, 1, 0, 0, 0, 0), 5, 0), ((200, .lconst 0, 1, 0, 0, 0, 0), 15, 0), ((201, .putfield 1233, 3, 0, 145, 10, 350), 51, 0), ((204, .aload_n 0, 1, 0, 0, 0, 0), 5, 0), ((205, .iconst 0, 1, 0, 0, 0, 0), 12, 0), ((206, .putfield 937, 3, 0, 143, 0, 331), 51, 0)],
  [((209, .aload_n 0, 1, 0, 0, 0, 0), 5, 0), ((210, .iconst 0, 1, 0, 0, 0, 0), 12, 0), ((211, .putfield 1167, 3, 0, 148, 0, 351), 51, 0), ((214, .return_, 1, 0, 0, 0, 0), 1000, 0)]])
def al_mX11_init : ev_MeK := (al_yX11_init, prog_1_method_1_code, 1, none, [[((0, .aload_n 0, 1, 0, 0, 0, 0), 5, 0), ((1, .invokespecial 1, 3, 0, 0, 0, 352), 58, 0), ((4, .aload_n 0, 1, 0, 0, 0, 0), 5, 0), ((5, .sipush 6000, 3, 6000, 0, 0, 0), 14, 0), ((8, .newarray .byte, 2, 1, 0, 0, 43), 58, 0), ((10, .putfield 9, 3, 3, 0, 20, 355), 51, 0), ((13, .aload_n 0, 1, 0, 0, 0, 0), 5, 0), ((14, .new 13, 3, 4, 16, 0, 356), 58, 0)],
  [((17, .dup, 1, 0, 0, 0, 0), 35, 0), ((18, .invokespecial 15, 3, 50, 1, 0, 359), 58, 0), ((21, .putfield 16, 3, 3, 1, 20, 360), 51, 0), ((24, .aload_n 0, 1, 0, 0, 0, 0), 5, 0), ((25, .new 20, 3, 5, 15, 0, 361), 58, 0), ((28, .dup, 1, 0, 0, 0, 0), 35, 0), ((29, .invokespecial 22, 3, 55, 1, 0, 364), 58, 0)],
  [((32, .putfield 23, 3, 3, 2, 20, 365), 51, 0), ((35, .aload_n 0, 1, 0, 0, 0, 0), 5, 0), ((36, .new 27, 3, 6, 17, 0, 366), 58, 0), ((39, .dup, 1, 0, 0, 0, 0), 35, 0), ((40, .invokespecial 29, 3, 59, 1, 0, 369), 58, 0), ((43, .putfield 30, 3, 3, 3, 20, 370), 51, 0), ((46, .aload_n 0, 1, 0, 0, 0, 0), 5, 0), ((47, .new 34, 3, 7, 12, 0, 371), 58, 0)],
  [((50, .dup, 1, 0, 0, 0, 0), 35, 0), ((51, .invokespecial 36, 3, 65, 1, 0, 374), 58, 0), ((54, .putfield 37, 3, 3, 4, 20, 375), 51, 0), ((57, .aload_n 0, 1, 0, 0, 0, 0), 5, 0), ((58, .iconst (-1), 1, 4294967295, 0, 0, 0), 12, 0), ((59, .putfield 41, 3, 3, 10, 0, 376), 51, 0), ((62, .aload_n 0, 1, 0, 0, 0, 0), 5, 0), ((63, .iconst (-1), 1, 4294967295, 0, 0, 0), 12, 0)],
  [((64, .putfield 45, 3, 3, 11, 0, 377), 51, 0), ((67, .aload_n 0, 1, 0, 0, 0, 0), 5, 0), ((68, .new 48, 3, 10, 13, 0, 378), 58, 0), ((71, .dup, 1, 0, 0, 0, 0), 35, 0), ((72, .new 50, 3, 9, 9, 0, 381), 58, 0), ((75, .dup, 1, 0, 0, 0, 0), 35, 0), ((76, .aload_n 0, 1, 0, 0, 0, 0), 5, 0), ((77, .getfield 9, 3, 3, 0, 20, 355), 50, 0)],
  [((80, .aload_n 0, 1, 0, 0, 0, 0), 5, 0), ((81, .getfield 16, 3, 3, 1, 20, 360), 50, 0), ((84, .invokespecial 52, 3, 71, 3, 0, 384), 58, 0), ((87, .aload_n 0, 1, 0, 0, 0, 0), 5, 0), ((88, .getfield 23, 3, 3, 2, 20, 365), 50, 0), ((91, .aload_n 0, 1, 0, 0, 0, 0), 5, 0), ((92, .getfield 16, 3, 3, 1, 20, 360), 50, 0), ((95, .invokespecial 55, 3, 75, 4, 0, 385), 58, 0)],
  [((98, .putfield 58, 3, 3, 5, 20, 386), 51, 0), ((101, .aload_n 0, 1, 0, 0, 0, 0), 5, 0), ((102, .new 62, 3, 12, 15, 0, 387), 58, 0), ((105, .dup, 1, 0, 0, 0, 0), 35, 0), ((106, .aload_n 0, 1, 0, 0, 0, 0), 5, 0), ((107, .getfield 16, 3, 3, 1, 20, 360), 50, 0), ((110, .aload_n 0, 1, 0, 0, 0, 0), 5, 0), ((111, .getfield 30, 3, 3, 3, 20, 370), 50, 0)],
  [((114, .aload_n 0, 1, 0, 0, 0, 0), 5, 0), ((115, .getfield 37, 3, 3, 4, 20, 375), 50, 0), ((118, .invokespecial 64, 3, 85, 4, 0, 390), 58, 0), ((121, .putfield 67, 3, 3, 6, 20, 391), 51, 0), ((124, .aload_n 0, 1, 0, 0, 0, 0), 5, 0), ((125, .new 71, 3, 13, 19, 0, 392), 58, 0)],
  [((128, .dup, 1, 0, 0, 0, 0), 35, 0), ((129, .aload_n 0, 1, 0, 0, 0, 0), 5, 0), ((130, .getfield 23, 3, 3, 2, 20, 365), 50, 0), ((133, .aload_n 0, 1, 0, 0, 0, 0), 5, 0), ((134, .getfield 16, 3, 3, 1, 20, 360), 50, 0), ((137, .aload_n 0, 1, 0, 0, 0, 0), 5, 0), ((138, .getfield 30, 3, 3, 3, 20, 370), 50, 0), ((141, .aload_n 0, 1, 0, 0, 0, 0), 5, 0), ((142, .getfield 37, 3, 3, 4, 20, 375), 50, 0)],
  [((145, .aload_n 0, 1, 0, 0, 0, 0), 5, 0), ((146, .getfield 67, 3, 3, 6, 20, 391), 50, 0), ((149, .invokespecial 73, 3, 87, 6, 0, 395), 58, 0), ((152, .putfield 76, 3, 3, 7, 20, 396), 51, 0), ((155, .return_, 1, 0, 0, 0, 0), 1000, 0)]])
def al_mX11_compile : ev_MeK := (al_yX11_compile, prog_1_method_4_code, 2, (some .int), [[((0, .aload_n 0, 1, 0, 0, 0, 0), 5, 0), ((1, .invokevirtual 86, 3, 49, 1, 3, 397), 56, 0), ((4, .aload_n 0, 1, 0, 0, 0, 0), 5, 0), ((5, .getfield 58, 3, 3, 5, 20, 386), 50, 0), ((8, .aload_n 0, 1, 0, 0, 0, 0), 5, 0), ((9, .getfield 80, 3, 3, 8, 0, 398), 50, 0), ((12, .invokevirtual 89, 3, 76, 2, 10, 399), 56, 0), ((15, .istore_n 1, 1, 0, 0, 0, 0), 7, 1)],
  [((16, .iload_n 1, 1, 0, 0, 0, 0), 1, 1), ((17, .ifCond .eq 28, 3, 45, 0, 0, 0), 38, 0), ((20, .aload_n 0, 1, 0, 0, 0, 0), 5, 0), ((21, .aload_n 0, 1, 0, 0, 0, 0), 5, 0), ((22, .getfield 58, 3, 3, 5, 20, 386), 50, 0), ((25, .getfield 93, 3, 10, 5, 0, 400), 50, 0), ((28, .putfield 41, 3, 3, 10, 0, 376), 51, 0), ((31, .aload_n 0, 1, 0, 0, 0, 0), 5, 0)],
  [((32, .aload_n 0, 1, 0, 0, 0, 0), 5, 0), ((33, .getfield 58, 3, 3, 5, 20, 386), 50, 0), ((36, .getfield 96, 3, 10, 6, 0, 401), 50, 0), ((39, .putfield 45, 3, 3, 11, 0, 377), 51, 0), ((42, .iload_n 1, 1, 0, 0, 0, 0), 1, 1), ((43, .ineg, 1, 0, 0, 0, 0), 23, 0), ((44, .ireturn, 1, 0, 0, 0, 0), 1000, 0), ((45, .aload_n 0, 1, 0, 0, 0, 0), 5, 0), ((46, .iconst (-1), 1, 4294967295, 0, 0, 0), 12, 0), ((47, .putfield 41, 3, 3, 10, 0, 376), 51, 0)],
  [((50, .aload_n 0, 1, 0, 0, 0, 0), 5, 0), ((51, .iconst (-1), 1, 4294967295, 0, 0, 0), 12, 0), ((52, .putfield 45, 3, 3, 11, 0, 377), 51, 0), ((55, .aload_n 0, 1, 0, 0, 0, 0), 5, 0), ((56, .iconst 1, 1, 1, 0, 0, 0), 12, 0), ((57, .putfield 99, 3, 3, 9, 2, 402), 51, 0), ((60, .aload_n 0, 1, 0, 0, 0, 0), 5, 0), ((61, .getfield 76, 3, 3, 7, 20, 396), 50, 0)],
  [((64, .invokevirtual 103, 3, 88, 1, 13, 403), 56, 0), ((67, .aload_n 0, 1, 0, 0, 0, 0), 5, 0), ((68, .getfield 23, 3, 3, 2, 20, 365), 50, 0), ((71, .getfield 106, 3, 5, 14, 0, 404), 50, 0), ((74, .ireturn, 1, 0, 0, 0, 0), 1000, 0)]])
def al_mX11_forget : ev_MeK := (al_yX11_forget, prog_1_method_18_code, 1, none, [[((0, .aload_n 0, 1, 0, 0, 0, 0), 5, 0), ((1, .iconst 0, 1, 0, 0, 0, 0), 12, 0), ((2, .putfield 99, 3, 3, 9, 2, 402), 51, 0), ((5, .return_, 1, 0, 0, 0, 0), 1000, 0)]])
def al_mX8_init : ev_MeK := (al_yX8_init, prog_10_method_1_code, 1, none, [[((0, .aload_n 0, 1, 0, 0, 0, 0), 5, 0), ((1, .invokespecial 3, 3, 0, 0, 0, 405), 58, 0), ((4, .aload_n 0, 1, 0, 0, 0, 0), 5, 0), ((5, .ldc 9, 2, 32768, 0, 0, 408), 58, 0), ((7, .newarray .byte, 2, 1, 0, 0, 43), 58, 0), ((9, .putfield 10, 3, 4, 0, 20, 14), 51, 0), ((12, .aload_n 0, 1, 0, 0, 0, 0), 5, 0), ((13, .sipush 3000, 3, 3000, 0, 0, 0), 14, 0)],
  [((16, .newarray .int, 2, 0, 0, 0, 40), 58, 0), ((18, .putfield 16, 3, 4, 1, 20, 15), 51, 0), ((21, .aload_n 0, 1, 0, 0, 0, 0), 5, 0), ((22, .sipush 3000, 3, 3000, 0, 0, 0), 14, 0), ((25, .newarray .int, 2, 0, 0, 0, 40), 58, 0), ((27, .putfield 20, 3, 4, 2, 20, 13), 51, 0), ((30, .aload_n 0, 1, 0, 0, 0, 0), 5, 0), ((31, .sipush 3000, 3, 3000, 0, 0, 0), 14, 0)],
  [((34, .newarray .int, 2, 0, 0, 0, 40), 58, 0), ((36, .putfield 23, 3, 4, 3, 20, 16), 51, 0), ((39, .aload_n 0, 1, 0, 0, 0, 0), 5, 0), ((40, .sipush 1024, 3, 1024, 0, 0, 0), 14, 0), ((43, .newarray .int, 2, 0, 0, 0, 40), 58, 0), ((45, .putfield 26, 3, 4, 4, 20, 12), 51, 0)],
  [((48, .aload_n 0, 1, 0, 0, 0, 0), 5, 0), ((49, .sipush 3000, 3, 3000, 0, 0, 0), 14, 0), ((52, .newarray .int, 2, 0, 0, 0, 40), 58, 0), ((54, .putfield 29, 3, 4, 5, 20, 23), 51, 0), ((57, .aload_n 0, 1, 0, 0, 0, 0), 5, 0), ((58, .sipush 3000, 3, 3000, 0, 0, 0), 14, 0), ((61, .newarray .byte, 2, 1, 0, 0, 43), 58, 0), ((63, .putfield 32, 3, 4, 7, 20, 26), 51, 0)],
  [((66, .aload_n 0, 1, 0, 0, 0, 0), 5, 0), ((67, .sipush 2200, 3, 2200, 0, 0, 0), 14, 0), ((70, .newarray .byte, 2, 1, 0, 0, 43), 58, 0), ((72, .putfield 35, 3, 4, 14, 20, 1), 51, 0), ((75, .aload_n 0, 1, 0, 0, 0, 0), 5, 0), ((76, .ldc 38, 2, 92233720368547758080, 0, 0, 0), 59, 0), ((78, .invokevirtual 40, 3, 51, 2, 4, 409), 56, 0)],
  [((81, .aload_n 0, 1, 0, 0, 0, 0), 5, 0), ((82, .ldc 44, 2, 92233720368547758081, 0, 0, 0), 59, 0), ((84, .invokevirtual 40, 3, 51, 2, 4, 409), 56, 0), ((87, .aload_n 0, 1, 0, 0, 0, 0), 5, 0), ((88, .ldc 46, 2, 92233720368547758082, 0, 0, 0), 59, 0), ((90, .invokevirtual 40, 3, 51, 2, 4, 409), 56, 0), ((93, .aload_n 0, 1, 0, 0, 0, 0), 5, 0), ((94, .ldc 48, 2, 92233720368547758083, 0, 0, 0), 59, 0)],
  [((96, .invokevirtual 40, 3, 51, 2, 4, 409), 56, 0), ((99, .return_, 1, 0, 0, 0, 0), 1000, 0)]])
def al_mX8_keepNames : ev_MeK := (al_yX8_keepNames, prog_10_method_2_code, 4, none, [[((0, .iconst 0, 1, 0, 0, 0, 0), 12, 0), ((1, .istore_n 2, 1, 0, 0, 0, 0), 7, 2), ((2, .iload_n 2, 1, 0, 0, 0, 0), 1, 2), ((3, .aload_n 1, 1, 0, 0, 0, 0), 59, 1), ((4, .invokevirtual 50, 3, 6, 1, 1, 29), 59, 0), ((7, .if_icmp .ge 39, 3, 46, 0, 0, 0), 47, 0), ((10, .aload_n 1, 1, 0, 0, 0, 0), 59, 1), ((11, .iload_n 2, 1, 0, 0, 0, 0), 1, 2), ((12, .invokevirtual 56, 3, 1, 2, 1, 30), 59, 0), ((15, .istore_n 3, 1, 0, 0, 0, 0), 7, 3)],
  [((16, .iload_n 3, 1, 0, 0, 0, 0), 1, 3), ((17, .bipush 32, 2, 32, 0, 0, 0), 13, 0), ((19, .if_icmp .ne 16, 3, 35, 0, 0, 0), 45, 0), ((22, .aload_n 0, 1, 0, 0, 0, 0), 59, 0), ((23, .invokevirtual 60, 3, 11, 1, 4, 410), 56, 0), ((26, .pop, 1, 0, 0, 0, 0), 58, 0), ((27, .aload_n 0, 1, 0, 0, 0, 0), 59, 0), ((28, .iconst 0, 1, 0, 0, 0, 0), 12, 0), ((29, .putfield 63, 3, 4, 15, 0, 0), 51, 0)],
  [((32, .goto 8, 3, 40, 0, 0, 0), 37, 0), ((35, .aload_n 0, 1, 0, 0, 0, 0), 59, 0), ((36, .iload_n 3, 1, 0, 0, 0, 0), 1, 3), ((37, .invokevirtual 67, 3, 0, 2, 4, 31), 56, 0), ((40, .iinc 2 1, 3, 1, 0, 0, 0), 36, 2), ((43, .goto (-41), 3, 2, 0, 0, 0), 37, 0), ((46, .return_, 1, 0, 0, 0, 0), 1000, 0)]])
def al_mX8_dropText : ev_MeK := (al_yX8_dropText, prog_10_method_20_code, 2, none, [[((0, .aload_n 0, 1, 0, 0, 0, 0), 5, 0), ((1, .aload_n 0, 1, 0, 0, 0, 0), 5, 0), ((2, .getfield 108, 3, 4, 10, 0, 27), 50, 0), ((5, .invokevirtual 120, 3, 54, 2, 4, 411), 56, 0), ((8, .aload_n 0, 1, 0, 0, 0, 0), 5, 0), ((9, .aload_n 0, 1, 0, 0, 0, 0), 5, 0), ((10, .getfield 108, 3, 4, 10, 0, 27), 50, 0), ((13, .putfield 111, 3, 4, 11, 0, 28), 51, 0)],
  [((16, .iconst 0, 1, 0, 0, 0, 0), 12, 0), ((17, .istore_n 1, 1, 0, 0, 0, 0), 7, 1), ((18, .iload_n 1, 1, 0, 0, 0, 0), 1, 1), ((19, .aload_n 0, 1, 0, 0, 0, 0), 5, 0), ((20, .getfield 108, 3, 4, 10, 0, 27), 50, 0), ((23, .if_icmp .ge 26, 3, 49, 0, 0, 0), 47, 0), ((26, .aload_n 0, 1, 0, 0, 0, 0), 5, 0), ((27, .getfield 32, 3, 4, 7, 20, 26), 50, 0), ((30, .iload_n 1, 1, 0, 0, 0, 0), 1, 1), ((31, .baload, 1, 0, 0, 0, 0), 54, 0)],
  [((32, .iconst 1, 1, 1, 0, 0, 0), 12, 0), ((33, .if_icmp .eq 10, 3, 43, 0, 0, 0), 44, 0), ((36, .aload_n 0, 1, 0, 0, 0, 0), 5, 0), ((37, .getfield 32, 3, 4, 7, 20, 26), 50, 0), ((40, .iload_n 1, 1, 0, 0, 0, 0), 1, 1), ((41, .iconst 2, 1, 2, 0, 0, 0), 12, 0), ((42, .bastore, 1, 0, 0, 0, 0), 55, 0), ((43, .iinc 1 1, 3, 1, 0, 0, 0), 36, 1), ((46, .goto (-28), 3, 18, 0, 0, 0), 37, 0)],
  [((49, .return_, 1, 0, 0, 0, 0), 1000, 0)]])
def al_mX8_dropMade : ev_MeK := (al_yX8_dropMade, prog_10_method_21_code, 2, none, [[((0, .aload_n 0, 1, 0, 0, 0, 0), 5, 0), ((1, .aload_n 0, 1, 0, 0, 0, 0), 5, 0), ((2, .getfield 111, 3, 4, 11, 0, 28), 50, 0), ((5, .invokevirtual 120, 3, 54, 2, 4, 411), 56, 0), ((8, .iconst 0, 1, 0, 0, 0, 0), 12, 0), ((9, .istore_n 1, 1, 0, 0, 0, 0), 7, 1), ((10, .iload_n 1, 1, 0, 0, 0, 0), 1, 1), ((11, .aload_n 0, 1, 0, 0, 0, 0), 5, 0), ((12, .getfield 108, 3, 4, 10, 0, 27), 50, 0), ((15, .if_icmp .ge 26, 3, 41, 0, 0, 0), 47, 0)],
  [((18, .aload_n 0, 1, 0, 0, 0, 0), 5, 0), ((19, .getfield 32, 3, 4, 7, 20, 26), 50, 0), ((22, .iload_n 1, 1, 0, 0, 0, 0), 1, 1), ((23, .baload, 1, 0, 0, 0, 0), 54, 0), ((24, .iconst 4, 1, 4, 0, 0, 0), 12, 0), ((25, .if_icmp .ne 10, 3, 35, 0, 0, 0), 45, 0), ((28, .aload_n 0, 1, 0, 0, 0, 0), 5, 0), ((29, .getfield 32, 3, 4, 7, 20, 26), 50, 0)],
  [((32, .iload_n 1, 1, 0, 0, 0, 0), 1, 1), ((33, .iconst 2, 1, 2, 0, 0, 0), 12, 0), ((34, .bastore, 1, 0, 0, 0, 0), 55, 0), ((35, .iinc 1 1, 3, 1, 0, 0, 0), 36, 1), ((38, .goto (-28), 3, 10, 0, 0, 0), 37, 0), ((41, .aload_n 0, 1, 0, 0, 0, 0), 5, 0), ((42, .iconst 0, 1, 0, 0, 0, 0), 12, 0), ((43, .putfield 114, 3, 4, 12, 0, 412), 51, 0), ((46, .aload_n 0, 1, 0, 0, 0, 0), 5, 0), ((47, .iconst 0, 1, 0, 0, 0, 0), 12, 0)],
  [((48, .putfield 117, 3, 4, 13, 0, 413), 51, 0), ((51, .return_, 1, 0, 0, 0, 0), 1000, 0)]])
def al_mX8_cutTo : ev_MeK := (al_yX8_cutTo, prog_10_method_22_code, 3, none, [[((0, .aload_n 0, 1, 0, 0, 0, 0), 5, 0), ((1, .getfield 105, 3, 4, 8, 0, 17), 50, 0), ((4, .iconst 1, 1, 1, 0, 0, 0), 12, 0), ((5, .isub, 1, 0, 0, 0, 0), 17, 0), ((6, .istore_n 2, 1, 0, 0, 0, 0), 7, 2), ((7, .iload_n 2, 1, 0, 0, 0, 0), 1, 2), ((8, .iload_n 1, 1, 0, 0, 0, 0), 1, 1), ((9, .if_icmp .lt 36, 3, 45, 0, 0, 0), 46, 0), ((12, .aload_n 0, 1, 0, 0, 0, 0), 5, 0), ((13, .aload_n 0, 1, 0, 0, 0, 0), 5, 0), ((14, .getfield 16, 3, 4, 1, 20, 15), 50, 0)],
  [((17, .iload_n 2, 1, 0, 0, 0, 0), 1, 2), ((18, .iaload, 1, 0, 0, 0, 0), 52, 0), ((19, .putfield 123, 3, 4, 9, 0, 18), 51, 0), ((22, .aload_n 0, 1, 0, 0, 0, 0), 5, 0), ((23, .getfield 26, 3, 4, 4, 20, 12), 50, 0), ((26, .aload_n 0, 1, 0, 0, 0, 0), 5, 0), ((27, .getfield 29, 3, 4, 5, 20, 23), 50, 0), ((30, .iload_n 2, 1, 0, 0, 0, 0), 1, 2), ((31, .iaload, 1, 0, 0, 0, 0), 52, 0)],
  [((32, .aload_n 0, 1, 0, 0, 0, 0), 5, 0), ((33, .getfield 23, 3, 4, 3, 20, 16), 50, 0), ((36, .iload_n 2, 1, 0, 0, 0, 0), 1, 2), ((37, .iaload, 1, 0, 0, 0, 0), 52, 0), ((38, .iastore, 1, 0, 0, 0, 0), 53, 0), ((39, .iinc 2 (-1), 3, 4294967295, 0, 0, 0), 36, 2), ((42, .goto (-35), 3, 7, 0, 0, 0), 37, 0), ((45, .aload_n 0, 1, 0, 0, 0, 0), 5, 0), ((46, .aload_n 0, 1, 0, 0, 0, 0), 5, 0), ((47, .getfield 105, 3, 4, 8, 0, 17), 50, 0)],
  [((50, .iload_n 1, 1, 0, 0, 0, 0), 1, 1), ((51, .invokestatic 75, 3, 998, 0, 0, 414), 59, 0), ((54, .putfield 105, 3, 4, 8, 0, 17), 51, 0), ((57, .return_, 1, 0, 0, 0, 0), 1000, 0)]])
def al_mX6_init : ev_MeK := (al_yX6_init, prog_8_method_1_code, 1, none, [[((0, .aload_n 0, 1, 0, 0, 0, 0), 5, 0), ((1, .invokespecial 1, 3, 0, 0, 0, 418), 58, 0), ((4, .aload_n 0, 1, 0, 0, 0, 0), 5, 0), ((5, .sipush 10000, 3, 10000, 0, 0, 0), 14, 0), ((8, .newarray .int, 2, 0, 0, 0, 40), 58, 0), ((10, .putfield 9, 3, 5, 0, 20, 421), 51, 0), ((13, .aload_n 0, 1, 0, 0, 0, 0), 5, 0), ((14, .sipush 10000, 3, 10000, 0, 0, 0), 14, 0)],
  [((17, .newarray .int, 2, 0, 0, 0, 40), 58, 0), ((19, .putfield 13, 3, 5, 1, 20, 422), 51, 0), ((22, .aload_n 0, 1, 0, 0, 0, 0), 5, 0), ((23, .sipush 10000, 3, 10000, 0, 0, 0), 14, 0), ((26, .newarray .int, 2, 0, 0, 0, 40), 58, 0), ((28, .putfield 16, 3, 5, 2, 20, 423), 51, 0), ((31, .aload_n 0, 1, 0, 0, 0, 0), 5, 0)],
  [((32, .sipush 10000, 3, 10000, 0, 0, 0), 14, 0), ((35, .newarray .int, 2, 0, 0, 0, 40), 58, 0), ((37, .putfield 19, 3, 5, 3, 20, 424), 51, 0), ((40, .aload_n 0, 1, 0, 0, 0, 0), 5, 0), ((41, .sipush 10000, 3, 10000, 0, 0, 0), 14, 0), ((44, .newarray .long, 2, 10, 0, 0, 53), 58, 0), ((46, .putfield 22, 3, 5, 5, 20, 425), 51, 0)],
  [((49, .aload_n 0, 1, 0, 0, 0, 0), 5, 0), ((50, .bipush 50, 2, 50, 0, 0, 0), 13, 0), ((52, .newarray .int, 2, 0, 0, 0, 40), 58, 0), ((54, .putfield 26, 3, 5, 7, 20, 426), 51, 0), ((57, .aload_n 0, 1, 0, 0, 0, 0), 5, 0), ((58, .bipush 50, 2, 50, 0, 0, 0), 13, 0), ((60, .newarray .int, 2, 0, 0, 0, 40), 58, 0), ((62, .putfield 29, 3, 5, 8, 20, 427), 51, 0)],
  [((65, .aload_n 0, 1, 0, 0, 0, 0), 5, 0), ((66, .bipush 50, 2, 50, 0, 0, 0), 13, 0), ((68, .newarray .int, 2, 0, 0, 0, 40), 58, 0), ((70, .putfield 32, 3, 5, 9, 20, 428), 51, 0), ((73, .aload_n 0, 1, 0, 0, 0, 0), 5, 0), ((74, .bipush 50, 2, 50, 0, 0, 0), 13, 0), ((76, .newarray .int, 2, 0, 0, 0, 40), 58, 0), ((78, .putfield 35, 3, 5, 10, 20, 429), 51, 0)],
  [((81, .aload_n 0, 1, 0, 0, 0, 0), 5, 0), ((82, .bipush 50, 2, 50, 0, 0, 0), 13, 0), ((84, .newarray .int, 2, 0, 0, 0, 40), 58, 0), ((86, .putfield 38, 3, 5, 11, 20, 430), 51, 0), ((89, .aload_n 0, 1, 0, 0, 0, 0), 5, 0), ((90, .bipush 50, 2, 50, 0, 0, 0), 13, 0), ((92, .newarray .boolean, 2, 2, 0, 0, 59), 58, 0), ((94, .putfield 41, 3, 5, 12, 20, 431), 51, 0)],
  [((97, .aload_n 0, 1, 0, 0, 0, 0), 5, 0), ((98, .sipush 1500, 3, 1500, 0, 0, 0), 14, 0), ((101, .newarray .int, 2, 0, 0, 0, 40), 58, 0), ((103, .putfield 45, 3, 5, 13, 20, 432), 51, 0), ((106, .return_, 1, 0, 0, 0, 0), 1000, 0)]])
def al_mX6_clear : ev_MeK := (al_yX6_clear, prog_8_method_2_code, 1, none, [[((0, .aload_n 0, 1, 0, 0, 0, 0), 5, 0), ((1, .iconst 0, 1, 0, 0, 0, 0), 12, 0), ((2, .putfield 48, 3, 5, 4, 0, 433), 51, 0), ((5, .aload_n 0, 1, 0, 0, 0, 0), 5, 0), ((6, .iconst 0, 1, 0, 0, 0, 0), 12, 0), ((7, .putfield 52, 3, 5, 6, 0, 434), 51, 0), ((10, .aload_n 0, 1, 0, 0, 0, 0), 5, 0), ((11, .iconst 0, 1, 0, 0, 0, 0), 12, 0), ((12, .putfield 55, 3, 5, 14, 0, 435), 51, 0), ((15, .return_, 1, 0, 0, 0, 0), 1000, 0)]])
def al_mX6_addFunction : ev_MeK := (al_yX6_addFunction, prog_8_method_3_code, 3, (some .int), [[((0, .aload_n 0, 1, 0, 0, 0, 0), 5, 0), ((1, .getfield 55, 3, 5, 14, 0, 435), 50, 0), ((4, .istore_n 2, 1, 0, 0, 0, 0), 7, 2), ((5, .aload_n 0, 1, 0, 0, 0, 0), 5, 0), ((6, .getfield 32, 3, 5, 9, 20, 428), 50, 0), ((9, .iload_n 2, 1, 0, 0, 0, 0), 1, 2), ((10, .iconst 0, 1, 0, 0, 0, 0), 12, 0), ((11, .iastore, 1, 0, 0, 0, 0), 53, 0), ((12, .aload_n 0, 1, 0, 0, 0, 0), 5, 0), ((13, .getfield 29, 3, 5, 8, 20, 427), 50, 0)],
  [((16, .iload_n 2, 1, 0, 0, 0, 0), 1, 2), ((17, .iconst 0, 1, 0, 0, 0, 0), 12, 0), ((18, .iastore, 1, 0, 0, 0, 0), 53, 0), ((19, .aload_n 0, 1, 0, 0, 0, 0), 5, 0), ((20, .getfield 35, 3, 5, 10, 20, 429), 50, 0), ((23, .iload_n 2, 1, 0, 0, 0, 0), 1, 2), ((24, .iconst 0, 1, 0, 0, 0, 0), 12, 0), ((25, .iastore, 1, 0, 0, 0, 0), 53, 0), ((26, .aload_n 0, 1, 0, 0, 0, 0), 5, 0), ((27, .getfield 41, 3, 5, 12, 20, 431), 50, 0), ((30, .iload_n 2, 1, 0, 0, 0, 0), 1, 2), ((31, .iconst 0, 1, 0, 0, 0, 0), 12, 0)],
  [((32, .bastore, 1, 0, 0, 0, 0), 55, 0), ((33, .aload_n 0, 1, 0, 0, 0, 0), 5, 0), ((34, .getfield 38, 3, 5, 11, 20, 430), 50, 0), ((37, .iload_n 2, 1, 0, 0, 0, 0), 1, 2), ((38, .iload_n 1, 1, 0, 0, 0, 0), 1, 1), ((39, .iastore, 1, 0, 0, 0, 0), 53, 0), ((40, .aload_n 0, 1, 0, 0, 0, 0), 5, 0), ((41, .dup, 1, 0, 0, 0, 0), 35, 0), ((42, .getfield 55, 3, 5, 14, 0, 435), 50, 0), ((45, .iconst 1, 1, 1, 0, 0, 0), 12, 0), ((46, .iadd, 1, 0, 0, 0, 0), 16, 0), ((47, .putfield 55, 3, 5, 14, 0, 435), 51, 0)],
  [((50, .iload_n 2, 1, 0, 0, 0, 0), 1, 2), ((51, .ireturn, 1, 0, 0, 0, 0), 1000, 0)]])
def al_mX6_emit : ev_MeK := (al_yX6_emit, prog_8_method_4_code, 5, (some .int), [[((0, .aload_n 0, 1, 0, 0, 0, 0), 5, 0), ((1, .getfield 48, 3, 5, 4, 0, 433), 50, 0), ((4, .sipush 10000, 3, 10000, 0, 0, 0), 14, 0), ((7, .if_icmp .lt 10, 3, 17, 0, 0, 0), 46, 0), ((10, .aload_n 0, 1, 0, 0, 0, 0), 5, 0), ((11, .getfield 48, 3, 5, 4, 0, 433), 50, 0), ((14, .iconst 1, 1, 1, 0, 0, 0), 12, 0), ((15, .isub, 1, 0, 0, 0, 0), 17, 0)],
  [((16, .ireturn, 1, 0, 0, 0, 0), 1000, 0), ((17, .aload_n 0, 1, 0, 0, 0, 0), 5, 0), ((18, .getfield 9, 3, 5, 0, 20, 421), 50, 0), ((21, .aload_n 0, 1, 0, 0, 0, 0), 5, 0), ((22, .getfield 48, 3, 5, 4, 0, 433), 50, 0), ((25, .iload_n 1, 1, 0, 0, 0, 0), 1, 1), ((26, .iastore, 1, 0, 0, 0, 0), 53, 0), ((27, .aload_n 0, 1, 0, 0, 0, 0), 5, 0), ((28, .getfield 13, 3, 5, 1, 20, 422), 50, 0), ((31, .aload_n 0, 1, 0, 0, 0, 0), 5, 0)],
  [((32, .getfield 48, 3, 5, 4, 0, 433), 50, 0), ((35, .iload_n 2, 1, 0, 0, 0, 0), 1, 2), ((36, .iastore, 1, 0, 0, 0, 0), 53, 0), ((37, .aload_n 0, 1, 0, 0, 0, 0), 5, 0), ((38, .getfield 16, 3, 5, 2, 20, 423), 50, 0), ((41, .aload_n 0, 1, 0, 0, 0, 0), 5, 0), ((42, .getfield 48, 3, 5, 4, 0, 433), 50, 0), ((45, .iload_n 3, 1, 0, 0, 0, 0), 1, 3), ((46, .iastore, 1, 0, 0, 0, 0), 53, 0), ((47, .aload_n 0, 1, 0, 0, 0, 0), 5, 0)],
  [((48, .getfield 19, 3, 5, 3, 20, 424), 50, 0), ((51, .aload_n 0, 1, 0, 0, 0, 0), 5, 0), ((52, .getfield 48, 3, 5, 4, 0, 433), 50, 0), ((55, .iload 4, 2, 0, 0, 0, 0), 0, 4), ((57, .iastore, 1, 0, 0, 0, 0), 53, 0), ((58, .aload_n 0, 1, 0, 0, 0, 0), 5, 0), ((59, .dup, 1, 0, 0, 0, 0), 35, 0), ((60, .getfield 48, 3, 5, 4, 0, 433), 50, 0), ((63, .iconst 1, 1, 1, 0, 0, 0), 12, 0)],
  [((64, .iadd, 1, 0, 0, 0, 0), 16, 0), ((65, .putfield 48, 3, 5, 4, 0, 433), 51, 0), ((68, .aload_n 0, 1, 0, 0, 0, 0), 5, 0), ((69, .getfield 48, 3, 5, 4, 0, 433), 50, 0), ((72, .iconst 1, 1, 1, 0, 0, 0), 12, 0), ((73, .isub, 1, 0, 0, 0, 0), 17, 0), ((74, .ireturn, 1, 0, 0, 0, 0), 1000, 0)]])
def al_mX9_init : ev_MeK := (al_yX9_init, prog_11_method_1_code, 1, none, [[((0, .aload_n 0, 1, 0, 0, 0, 0), 5, 0), ((1, .invokespecial 3, 3, 0, 0, 0, 436), 58, 0), ((4, .aload_n 0, 1, 0, 0, 0, 0), 5, 0), ((5, .sipush 2001, 3, 2001, 0, 0, 0), 14, 0), ((8, .newarray .int, 2, 0, 0, 0, 40), 58, 0), ((10, .putfield 11, 3, 6, 0, 20, 439), 51, 0), ((13, .aload_n 0, 1, 0, 0, 0, 0), 5, 0), ((14, .sipush 2001, 3, 2001, 0, 0, 0), 14, 0)],
  [((17, .newarray .int, 2, 0, 0, 0, 40), 58, 0), ((19, .putfield 17, 3, 6, 1, 20, 440), 51, 0), ((22, .aload_n 0, 1, 0, 0, 0, 0), 5, 0), ((23, .sipush 2001, 3, 2001, 0, 0, 0), 14, 0), ((26, .newarray .int, 2, 0, 0, 0, 40), 58, 0), ((28, .putfield 20, 3, 6, 2, 20, 441), 51, 0), ((31, .aload_n 0, 1, 0, 0, 0, 0), 5, 0)],
  [((32, .sipush 2001, 3, 2001, 0, 0, 0), 14, 0), ((35, .newarray .int, 2, 0, 0, 0, 40), 58, 0), ((37, .putfield 23, 3, 6, 3, 20, 442), 51, 0), ((40, .aload_n 0, 1, 0, 0, 0, 0), 5, 0), ((41, .sipush 3001, 3, 3001, 0, 0, 0), 14, 0), ((44, .newarray .byte, 2, 1, 0, 0, 43), 58, 0), ((46, .putfield 26, 3, 6, 4, 20, 443), 51, 0)],
  [((49, .aload_n 0, 1, 0, 0, 0, 0), 5, 0), ((50, .sipush 3001, 3, 3001, 0, 0, 0), 14, 0), ((53, .newarray .byte, 2, 1, 0, 0, 43), 58, 0), ((55, .putfield 30, 3, 6, 5, 20, 444), 51, 0), ((58, .aload_n 0, 1, 0, 0, 0, 0), 5, 0), ((59, .sipush 3001, 3, 3001, 0, 0, 0), 14, 0), ((62, .newarray .long, 2, 10, 0, 0, 53), 58, 0)],
  [((64, .putfield 33, 3, 6, 6, 20, 445), 51, 0), ((67, .aload_n 0, 1, 0, 0, 0, 0), 5, 0), ((68, .sipush 3001, 3, 3001, 0, 0, 0), 14, 0), ((71, .newarray .long, 2, 10, 0, 0, 53), 58, 0), ((73, .putfield 37, 3, 6, 7, 20, 446), 51, 0), ((76, .aload_n 0, 1, 0, 0, 0, 0), 5, 0), ((77, .sipush 3001, 3, 3001, 0, 0, 0), 14, 0)],
  [((80, .newarray .int, 2, 0, 0, 0, 40), 58, 0), ((82, .putfield 40, 3, 6, 8, 20, 447), 51, 0), ((85, .aload_n 0, 1, 0, 0, 0, 0), 5, 0), ((86, .sipush 3001, 3, 3001, 0, 0, 0), 14, 0), ((89, .newarray .int, 2, 0, 0, 0, 40), 58, 0), ((91, .putfield 43, 3, 6, 9, 20, 448), 51, 0), ((94, .aload_n 0, 1, 0, 0, 0, 0), 5, 0), ((95, .sipush 3001, 3, 3001, 0, 0, 0), 14, 0)],
  [((98, .newarray .int, 2, 0, 0, 0, 40), 58, 0), ((100, .putfield 46, 3, 6, 10, 20, 449), 51, 0), ((103, .aload_n 0, 1, 0, 0, 0, 0), 5, 0), ((104, .sipush 4096, 3, 4096, 0, 0, 0), 14, 0), ((107, .newarray .int, 2, 0, 0, 0, 40), 58, 0), ((109, .putfield 49, 3, 6, 11, 20, 450), 51, 0)],
  [((112, .aload_n 0, 1, 0, 0, 0, 0), 5, 0), ((113, .sipush 3001, 3, 3001, 0, 0, 0), 14, 0), ((116, .newarray .int, 2, 0, 0, 0, 40), 58, 0), ((118, .putfield 52, 3, 6, 12, 20, 451), 51, 0), ((121, .return_, 1, 0, 0, 0, 0), 1000, 0)]])
def al_mX9_clear : ev_MeK := (al_yX9_clear, prog_11_method_2_code, 1, none, [[((0, .aload_n 0, 1, 0, 0, 0, 0), 5, 0), ((1, .getfield 49, 3, 6, 11, 20, 450), 50, 0), ((4, .iconst 0, 1, 0, 0, 0, 0), 12, 0), ((5, .invokestatic 55, 3, 104, 2, 0, 452), 57, 0), ((8, .aload_n 0, 1, 0, 0, 0, 0), 5, 0), ((9, .iconst 0, 1, 0, 0, 0, 0), 12, 0), ((10, .putfield 61, 3, 6, 14, 0, 453), 51, 0), ((13, .aload_n 0, 1, 0, 0, 0, 0), 5, 0), ((14, .iconst 0, 1, 0, 0, 0, 0), 12, 0), ((15, .putfield 65, 3, 6, 15, 0, 454), 51, 0)],
  [((18, .aload_n 0, 1, 0, 0, 0, 0), 5, 0), ((19, .iconst 0, 1, 0, 0, 0, 0), 12, 0), ((20, .putfield 68, 3, 6, 16, 0, 455), 51, 0), ((23, .aload_n 0, 1, 0, 0, 0, 0), 5, 0), ((24, .iconst 0, 1, 0, 0, 0, 0), 12, 0), ((25, .invokevirtual 71, 3, 61, 2, 6, 456), 56, 0), ((28, .return_, 1, 0, 0, 0, 0), 1000, 0)]])
def al_mX9_open : ev_MeK := (al_yX9_open, prog_11_method_3_code, 2, none, [[((0, .aload_n 0, 1, 0, 0, 0, 0), 5, 0), ((1, .getfield 11, 3, 6, 0, 20, 439), 50, 0), ((4, .iload_n 1, 1, 0, 0, 0, 0), 1, 1), ((5, .iconst 0, 1, 0, 0, 0, 0), 12, 0), ((6, .iastore, 1, 0, 0, 0, 0), 53, 0), ((7, .aload_n 0, 1, 0, 0, 0, 0), 5, 0), ((8, .getfield 17, 3, 6, 1, 20, 440), 50, 0), ((11, .iload_n 1, 1, 0, 0, 0, 0), 1, 1), ((12, .iconst 0, 1, 0, 0, 0, 0), 12, 0), ((13, .iastore, 1, 0, 0, 0, 0), 53, 0), ((14, .aload_n 0, 1, 0, 0, 0, 0), 5, 0), ((15, .getfield 20, 3, 6, 2, 20, 441), 50, 0)],
  [((18, .iload_n 1, 1, 0, 0, 0, 0), 1, 1), ((19, .iconst 0, 1, 0, 0, 0, 0), 12, 0), ((20, .iastore, 1, 0, 0, 0, 0), 53, 0), ((21, .aload_n 0, 1, 0, 0, 0, 0), 5, 0), ((22, .getfield 23, 3, 6, 3, 20, 442), 50, 0), ((25, .iload_n 1, 1, 0, 0, 0, 0), 1, 1), ((26, .iconst 0, 1, 0, 0, 0, 0), 12, 0), ((27, .iastore, 1, 0, 0, 0, 0), 53, 0), ((28, .return_, 1, 0, 0, 0, 0), 1000, 0)]])
def al_mX9_find : ev_MeK := (al_yX9_find, prog_11_method_4_code, 7, (some .int), [[((0, .lload_n 3, 1, 0, 0, 0, 0), 3, 3), ((1, .lload_n 3, 1, 0, 0, 0, 0), 3, 3), ((2, .bipush 32, 2, 32, 0, 0, 0), 13, 0), ((4, .lushr, 1, 0, 0, 0, 0), 34, 0), ((5, .lxor, 1, 0, 0, 0, 0), 31, 0), ((6, .l2i, 1, 0, 0, 0, 0), 33, 0), ((7, .bipush 31, 2, 31, 0, 0, 0), 13, 0), ((9, .imul, 1, 0, 0, 0, 0), 18, 0), ((10, .iload_n 2, 1, 0, 0, 0, 0), 1, 2), ((11, .iadd, 1, 0, 0, 0, 0), 16, 0), ((12, .bipush 31, 2, 31, 0, 0, 0), 13, 0), ((14, .imul, 1, 0, 0, 0, 0), 18, 0), ((15, .iload_n 1, 1, 0, 0, 0, 0), 1, 1)],
  [((16, .iadd, 1, 0, 0, 0, 0), 16, 0), ((17, .istore 5, 2, 0, 0, 0, 0), 6, 5), ((19, .aload_n 0, 1, 0, 0, 0, 0), 5, 0), ((20, .iload 5, 2, 0, 0, 0, 0), 0, 5), ((22, .iload 5, 2, 0, 0, 0, 0), 0, 5), ((24, .bipush 12, 2, 12, 0, 0, 0), 13, 0), ((26, .iushr, 1, 0, 0, 0, 0), 22, 0), ((27, .ixor, 1, 0, 0, 0, 0), 21, 0), ((28, .iload 5, 2, 0, 0, 0, 0), 0, 5), ((30, .bipush 24, 2, 24, 0, 0, 0), 13, 0)],
  [((32, .iushr, 1, 0, 0, 0, 0), 22, 0), ((33, .ixor, 1, 0, 0, 0, 0), 21, 0), ((34, .sipush 4095, 3, 4095, 0, 0, 0), 14, 0), ((37, .iand, 1, 0, 0, 0, 0), 19, 0), ((38, .putfield 75, 3, 6, 13, 0, 457), 51, 0), ((41, .aload_n 0, 1, 0, 0, 0, 0), 5, 0), ((42, .getfield 49, 3, 6, 11, 20, 450), 50, 0), ((45, .aload_n 0, 1, 0, 0, 0, 0), 5, 0), ((46, .getfield 75, 3, 6, 13, 0, 457), 50, 0)],
  [((49, .iaload, 1, 0, 0, 0, 0), 52, 0), ((50, .istore 6, 2, 0, 0, 0, 0), 6, 6), ((52, .iload 6, 2, 0, 0, 0, 0), 0, 6), ((54, .ifCond .eq 49, 3, 103, 0, 0, 0), 38, 0), ((57, .aload_n 0, 1, 0, 0, 0, 0), 5, 0), ((58, .getfield 33, 3, 6, 6, 20, 445), 50, 0), ((61, .iload 6, 2, 0, 0, 0, 0), 0, 6), ((63, .laload, 1, 0, 0, 0, 0), 58, 0)],
  [((64, .lload_n 3, 1, 0, 0, 0, 0), 3, 3), ((65, .lcmp, 1, 0, 0, 0, 0), 32, 0), ((66, .ifCond .ne 25, 3, 91, 0, 0, 0), 39, 0), ((69, .aload_n 0, 1, 0, 0, 0, 0), 5, 0), ((70, .getfield 26, 3, 6, 4, 20, 443), 50, 0), ((73, .iload 6, 2, 0, 0, 0, 0), 0, 6), ((75, .baload, 1, 0, 0, 0, 0), 54, 0), ((76, .iload_n 2, 1, 0, 0, 0, 0), 1, 2), ((77, .if_icmp .ne 14, 3, 91, 0, 0, 0), 45, 0)],
  [((80, .aload_n 0, 1, 0, 0, 0, 0), 5, 0), ((81, .getfield 40, 3, 6, 8, 20, 447), 50, 0), ((84, .iload 6, 2, 0, 0, 0, 0), 0, 6), ((86, .iaload, 1, 0, 0, 0, 0), 52, 0), ((87, .iload_n 1, 1, 0, 0, 0, 0), 1, 1), ((88, .if_icmp .eq 15, 3, 103, 0, 0, 0), 44, 0), ((91, .aload_n 0, 1, 0, 0, 0, 0), 5, 0), ((92, .getfield 46, 3, 6, 10, 20, 449), 50, 0), ((95, .iload 6, 2, 0, 0, 0, 0), 0, 6)],
  [((97, .iaload, 1, 0, 0, 0, 0), 52, 0), ((98, .istore 6, 2, 0, 0, 0, 0), 6, 6), ((100, .goto (-48), 3, 52, 0, 0, 0), 37, 0), ((103, .iload 6, 2, 0, 0, 0, 0), 0, 6), ((105, .ireturn, 1, 0, 0, 0, 0), 1000, 0)]])
def al_mX9_put : ev_MeK := (al_yX9_put, prog_11_method_6_code, 10, (some .boolean), [[((0, .aload_n 0, 1, 0, 0, 0, 0), 5, 0), ((1, .iload_n 1, 1, 0, 0, 0, 0), 1, 1), ((2, .iload_n 2, 1, 0, 0, 0, 0), 1, 2), ((3, .lload_n 3, 1, 0, 0, 0, 0), 3, 3), ((4, .invokevirtual 78, 3, 62, 4, 6, 458), 56, 0), ((7, .istore 8, 2, 0, 0, 0, 0), 6, 8), ((9, .iload 8, 2, 0, 0, 0, 0), 0, 8), ((11, .ifCond .ne 26, 3, 37, 0, 0, 0), 39, 0), ((14, .iload 5, 2, 0, 0, 0, 0), 0, 5)],
  [((16, .ifCond .ne 5, 3, 21, 0, 0, 0), 39, 0), ((19, .iconst 1, 1, 1, 0, 0, 0), 12, 0), ((20, .ireturn, 1, 0, 0, 0, 0), 1000, 0), ((21, .aload_n 0, 1, 0, 0, 0, 0), 5, 0), ((22, .iload_n 1, 1, 0, 0, 0, 0), 1, 1), ((23, .iload_n 2, 1, 0, 0, 0, 0), 1, 2), ((24, .lload_n 3, 1, 0, 0, 0, 0), 3, 3), ((25, .invokevirtual 82, 3, 64, 4, 6, 459), 56, 0), ((28, .istore 8, 2, 0, 0, 0, 0), 6, 8), ((30, .iload 8, 2, 0, 0, 0, 0), 0, 8)],
  [((32, .ifCond .ne 5, 3, 37, 0, 0, 0), 39, 0), ((35, .iconst 0, 1, 0, 0, 0, 0), 12, 0), ((36, .ireturn, 1, 0, 0, 0, 0), 1000, 0), ((37, .aload_n 0, 1, 0, 0, 0, 0), 5, 0), ((38, .getfield 30, 3, 6, 5, 20, 444), 50, 0), ((41, .iload 8, 2, 0, 0, 0, 0), 0, 8), ((43, .baload, 1, 0, 0, 0, 0), 54, 0), ((44, .ifCond .eq 7, 3, 51, 0, 0, 0), 38, 0), ((47, .iconst 1, 1, 1, 0, 0, 0), 12, 0)],
  [((48, .goto 4, 3, 52, 0, 0, 0), 37, 0), ((51, .iconst 0, 1, 0, 0, 0, 0), 12, 0), ((52, .istore 9, 2, 0, 0, 0, 0), 6, 9), ((54, .aload_n 0, 1, 0, 0, 0, 0), 5, 0), ((55, .getfield 30, 3, 6, 5, 20, 444), 50, 0), ((58, .iload 8, 2, 0, 0, 0, 0), 0, 8), ((60, .iload 5, 2, 0, 0, 0, 0), 0, 5), ((62, .i2b, 1, 0, 0, 0, 0), 24, 0), ((63, .bastore, 1, 0, 0, 0, 0), 55, 0)],
  [((64, .aload_n 0, 1, 0, 0, 0, 0), 5, 0), ((65, .getfield 37, 3, 6, 7, 20, 446), 50, 0), ((68, .iload 8, 2, 0, 0, 0, 0), 0, 8), ((70, .lload 6, 2, 0, 0, 0, 0), 2, 6), ((72, .lastore, 1, 0, 0, 0, 0), 58, 0), ((73, .iload_n 2, 1, 0, 0, 0, 0), 1, 2), ((74, .iconst 2, 1, 2, 0, 0, 0), 12, 0), ((75, .if_icmp .ne 35, 3, 110, 0, 0, 0), 45, 0), ((78, .iload 9, 2, 0, 0, 0, 0), 0, 9)],
  [((80, .ifCond .ne 30, 3, 110, 0, 0, 0), 39, 0), ((83, .iload 5, 2, 0, 0, 0, 0), 0, 5), ((85, .ifCond .eq 25, 3, 110, 0, 0, 0), 38, 0), ((88, .lload_n 3, 1, 0, 0, 0, 0), 3, 3), ((89, .aload_n 0, 1, 0, 0, 0, 0), 5, 0), ((90, .getfield 20, 3, 6, 2, 20, 441), 50, 0), ((93, .iload_n 1, 1, 0, 0, 0, 0), 1, 1), ((94, .iaload, 1, 0, 0, 0, 0), 52, 0), ((95, .i2l, 1, 0, 0, 0, 0), 26, 0)],
  [((96, .lconst 1, 1, 0, 0, 0, 0), 15, 1), ((97, .ladd, 1, 0, 0, 0, 0), 27, 0), ((98, .lcmp, 1, 0, 0, 0, 0), 32, 0), ((99, .ifCond .ne 11, 3, 110, 0, 0, 0), 39, 0), ((102, .aload_n 0, 1, 0, 0, 0, 0), 5, 0), ((103, .iload_n 1, 1, 0, 0, 0, 0), 1, 1), ((107, .goto 20, 3, 127, 0, 0, 0), 37, 0), ((110, .iload 9, 2, 0, 0, 0, 0), 0, 9)],
  [((112, .ifCond .eq 15, 3, 127, 0, 0, 0), 38, 0), ((115, .iload 5, 2, 0, 0, 0, 0), 0, 5), ((117, .ifCond .ne 10, 3, 127, 0, 0, 0), 39, 0), ((120, .aload_n 0, 1, 0, 0, 0, 0), 5, 0), ((121, .iload_n 1, 1, 0, 0, 0, 0), 1, 1), ((122, .iload_n 2, 1, 0, 0, 0, 0), 1, 2), ((123, .lload_n 3, 1, 0, 0, 0, 0), 3, 3), ((127, .iconst 1, 1, 1, 0, 0, 0), 12, 0)],
  [((128, .ireturn, 1, 0, 0, 0, 0), 1000, 0)]])
def al_mX9_add : ev_MeK := (al_yX9_add, prog_11_method_12_code, 6, (some .int), [[((0, .aload_n 0, 1, 0, 0, 0, 0), 5, 0), ((1, .getfield 68, 3, 6, 16, 0, 455), 50, 0), ((4, .sipush 3000, 3, 3000, 0, 0, 0), 14, 0), ((7, .if_icmp .lt 5, 3, 12, 0, 0, 0), 46, 0), ((10, .iconst 0, 1, 0, 0, 0, 0), 12, 0), ((11, .ireturn, 1, 0, 0, 0, 0), 1000, 0), ((12, .aload_n 0, 1, 0, 0, 0, 0), 5, 0), ((13, .getfield 61, 3, 6, 14, 0, 453), 50, 0)],
  [((16, .istore 5, 2, 0, 0, 0, 0), 6, 5), ((18, .iload 5, 2, 0, 0, 0, 0), 0, 5), ((20, .ifCond .eq 17, 3, 37, 0, 0, 0), 38, 0), ((23, .aload_n 0, 1, 0, 0, 0, 0), 5, 0), ((24, .aload_n 0, 1, 0, 0, 0, 0), 5, 0), ((25, .getfield 43, 3, 6, 9, 20, 448), 50, 0), ((28, .iload 5, 2, 0, 0, 0, 0), 0, 5), ((30, .iaload, 1, 0, 0, 0, 0), 52, 0), ((31, .putfield 61, 3, 6, 14, 0, 453), 51, 0)],
  [((34, .goto 19, 3, 53, 0, 0, 0), 37, 0), ((37, .aload_n 0, 1, 0, 0, 0, 0), 5, 0), ((38, .dup, 1, 0, 0, 0, 0), 35, 0), ((39, .getfield 65, 3, 6, 15, 0, 454), 50, 0), ((42, .iconst 1, 1, 1, 0, 0, 0), 12, 0), ((43, .iadd, 1, 0, 0, 0, 0), 16, 0), ((44, .putfield 65, 3, 6, 15, 0, 454), 51, 0), ((47, .aload_n 0, 1, 0, 0, 0, 0), 5, 0)],
  [((48, .getfield 65, 3, 6, 15, 0, 454), 50, 0), ((51, .istore 5, 2, 0, 0, 0, 0), 6, 5), ((53, .aload_n 0, 1, 0, 0, 0, 0), 5, 0), ((54, .dup, 1, 0, 0, 0, 0), 35, 0), ((55, .getfield 68, 3, 6, 16, 0, 455), 50, 0), ((58, .iconst 1, 1, 1, 0, 0, 0), 12, 0), ((59, .iadd, 1, 0, 0, 0, 0), 16, 0), ((60, .putfield 68, 3, 6, 16, 0, 455), 51, 0), ((63, .aload_n 0, 1, 0, 0, 0, 0), 5, 0)],
  [((64, .getfield 40, 3, 6, 8, 20, 447), 50, 0), ((67, .iload 5, 2, 0, 0, 0, 0), 0, 5), ((69, .iload_n 1, 1, 0, 0, 0, 0), 1, 1), ((70, .iastore, 1, 0, 0, 0, 0), 53, 0), ((71, .aload_n 0, 1, 0, 0, 0, 0), 5, 0), ((72, .getfield 26, 3, 6, 4, 20, 443), 50, 0), ((75, .iload 5, 2, 0, 0, 0, 0), 0, 5), ((77, .iload_n 2, 1, 0, 0, 0, 0), 1, 2), ((78, .i2b, 1, 0, 0, 0, 0), 24, 0), ((79, .bastore, 1, 0, 0, 0, 0), 55, 0)],
  [((80, .aload_n 0, 1, 0, 0, 0, 0), 5, 0), ((81, .getfield 33, 3, 6, 6, 20, 445), 50, 0), ((84, .iload 5, 2, 0, 0, 0, 0), 0, 5), ((86, .lload_n 3, 1, 0, 0, 0, 0), 3, 3), ((87, .lastore, 1, 0, 0, 0, 0), 58, 0), ((88, .aload_n 0, 1, 0, 0, 0, 0), 5, 0), ((89, .getfield 30, 3, 6, 5, 20, 444), 50, 0), ((92, .iload 5, 2, 0, 0, 0, 0), 0, 5), ((94, .iconst 0, 1, 0, 0, 0, 0), 12, 0), ((95, .bastore, 1, 0, 0, 0, 0), 55, 0)],
  [((96, .aload_n 0, 1, 0, 0, 0, 0), 5, 0), ((97, .getfield 43, 3, 6, 9, 20, 448), 50, 0), ((100, .iload 5, 2, 0, 0, 0, 0), 0, 5), ((102, .iconst 0, 1, 0, 0, 0, 0), 12, 0), ((103, .iastore, 1, 0, 0, 0, 0), 53, 0), ((104, .aload_n 0, 1, 0, 0, 0, 0), 5, 0), ((105, .getfield 11, 3, 6, 0, 20, 439), 50, 0), ((108, .iload_n 1, 1, 0, 0, 0, 0), 1, 1), ((109, .iaload, 1, 0, 0, 0, 0), 52, 0), ((110, .ifCond .ne 14, 3, 124, 0, 0, 0), 39, 0)],
  [((113, .aload_n 0, 1, 0, 0, 0, 0), 5, 0), ((114, .getfield 11, 3, 6, 0, 20, 439), 50, 0), ((117, .iload_n 1, 1, 0, 0, 0, 0), 1, 1), ((118, .iload 5, 2, 0, 0, 0, 0), 0, 5), ((120, .iastore, 1, 0, 0, 0, 0), 53, 0), ((121, .goto 16, 3, 137, 0, 0, 0), 37, 0), ((124, .aload_n 0, 1, 0, 0, 0, 0), 5, 0), ((125, .getfield 43, 3, 6, 9, 20, 448), 50, 0)],
  [((128, .aload_n 0, 1, 0, 0, 0, 0), 5, 0), ((129, .getfield 17, 3, 6, 1, 20, 440), 50, 0), ((132, .iload_n 1, 1, 0, 0, 0, 0), 1, 1), ((133, .iaload, 1, 0, 0, 0, 0), 52, 0), ((134, .iload 5, 2, 0, 0, 0, 0), 0, 5), ((136, .iastore, 1, 0, 0, 0, 0), 53, 0), ((137, .aload_n 0, 1, 0, 0, 0, 0), 5, 0), ((138, .getfield 17, 3, 6, 1, 20, 440), 50, 0), ((141, .iload_n 1, 1, 0, 0, 0, 0), 1, 1), ((142, .iload 5, 2, 0, 0, 0, 0), 0, 5)],
  [((144, .iastore, 1, 0, 0, 0, 0), 53, 0), ((145, .aload_n 0, 1, 0, 0, 0, 0), 5, 0), ((146, .getfield 52, 3, 6, 12, 20, 451), 50, 0), ((149, .iload 5, 2, 0, 0, 0, 0), 0, 5), ((151, .aload_n 0, 1, 0, 0, 0, 0), 5, 0), ((152, .getfield 75, 3, 6, 13, 0, 457), 50, 0), ((155, .iastore, 1, 0, 0, 0, 0), 53, 0), ((156, .aload_n 0, 1, 0, 0, 0, 0), 5, 0), ((157, .getfield 46, 3, 6, 10, 20, 449), 50, 0)],
  [((160, .iload 5, 2, 0, 0, 0, 0), 0, 5), ((162, .aload_n 0, 1, 0, 0, 0, 0), 5, 0), ((163, .getfield 49, 3, 6, 11, 20, 450), 50, 0), ((166, .aload_n 0, 1, 0, 0, 0, 0), 5, 0), ((167, .getfield 75, 3, 6, 13, 0, 457), 50, 0), ((170, .iaload, 1, 0, 0, 0, 0), 52, 0), ((171, .iastore, 1, 0, 0, 0, 0), 53, 0), ((172, .aload_n 0, 1, 0, 0, 0, 0), 5, 0), ((173, .getfield 49, 3, 6, 11, 20, 450), 50, 0)],
  [((176, .aload_n 0, 1, 0, 0, 0, 0), 5, 0), ((177, .getfield 75, 3, 6, 13, 0, 457), 50, 0), ((180, .iload 5, 2, 0, 0, 0, 0), 0, 5), ((182, .iastore, 1, 0, 0, 0, 0), 53, 0), ((183, .iload 5, 2, 0, 0, 0, 0), 0, 5), ((185, .ireturn, 1, 0, 0, 0, 0), 1000, 0)]])
def al_mX3_init : ev_MeK := (al_yX3_init, prog_5_method_1_code, 1, none, [[((0, .aload_n 0, 1, 0, 0, 0, 0), 5, 0), ((1, .invokespecial 3, 3, 0, 0, 0, 460), 58, 0), ((4, .aload_n 0, 1, 0, 0, 0, 0), 5, 0), ((5, .sipush 2001, 3, 2001, 0, 0, 0), 14, 0), ((8, .newarray .byte, 2, 1, 0, 0, 43), 58, 0), ((10, .putfield 11, 3, 7, 0, 20, 463), 51, 0), ((13, .aload_n 0, 1, 0, 0, 0, 0), 5, 0), ((14, .sipush 2001, 3, 2001, 0, 0, 0), 14, 0)],
  [((17, .newarray .int, 2, 0, 0, 0, 40), 58, 0), ((19, .putfield 15, 3, 7, 1, 20, 464), 51, 0), ((22, .aload_n 0, 1, 0, 0, 0, 0), 5, 0), ((23, .sipush 2001, 3, 2001, 0, 0, 0), 14, 0), ((26, .newarray .int, 2, 0, 0, 0, 40), 58, 0), ((28, .putfield 19, 3, 7, 2, 20, 465), 51, 0), ((31, .aload_n 0, 1, 0, 0, 0, 0), 5, 0)],
  [((32, .sipush 256, 3, 256, 0, 0, 0), 14, 0), ((35, .newarray .int, 2, 0, 0, 0, 40), 58, 0), ((37, .putfield 22, 3, 7, 5, 20, 466), 51, 0), ((40, .aload_n 0, 1, 0, 0, 0, 0), 5, 0), ((41, .sipush 256, 3, 256, 0, 0, 0), 14, 0), ((44, .newarray .byte, 2, 1, 0, 0, 43), 58, 0), ((46, .putfield 25, 3, 7, 7, 20, 467), 51, 0)],
  [((49, .aload_n 0, 1, 0, 0, 0, 0), 5, 0), ((50, .sipush 256, 3, 256, 0, 0, 0), 14, 0), ((53, .newarray .long, 2, 10, 0, 0, 53), 58, 0), ((55, .putfield 28, 3, 7, 8, 20, 468), 51, 0), ((58, .aload_n 0, 1, 0, 0, 0, 0), 5, 0), ((59, .bipush 26, 2, 26, 0, 0, 0), 13, 0), ((61, .anewarray 32, 3, 0, 0, 0, 469), 59, 0)],
  [((64, .putfield 34, 3, 7, 10, 20, 470), 51, 0), ((67, .aload_n 0, 1, 0, 0, 0, 0), 5, 0), ((68, .getfield 34, 3, 7, 10, 20, 470), 50, 0), ((71, .iconst 0, 1, 0, 0, 0, 0), 12, 0), ((72, .new 32, 3, 8, 16, 0, 471), 58, 0), ((75, .dup, 1, 0, 0, 0, 0), 35, 0), ((76, .invokespecial 38, 3, 68, 1, 0, 474), 58, 0), ((79, .aastore, 1, 8, 0, 0, 0), 59, 0)],
  [((80, .return_, 1, 0, 0, 0, 0), 1000, 0)]])
def al_mX3_clear : ev_MeK := (al_yX3_clear, prog_5_method_2_code, 1, none, [[((0, .aload_n 0, 1, 0, 0, 0, 0), 5, 0), ((1, .iconst 0, 1, 0, 0, 0, 0), 12, 0), ((2, .putfield 39, 3, 7, 3, 0, 475), 51, 0), ((5, .aload_n 0, 1, 0, 0, 0, 0), 5, 0), ((6, .iconst 0, 1, 0, 0, 0, 0), 12, 0), ((7, .putfield 43, 3, 7, 4, 0, 476), 51, 0), ((10, .aload_n 0, 1, 0, 0, 0, 0), 5, 0), ((11, .iconst 0, 1, 0, 0, 0, 0), 12, 0), ((12, .putfield 46, 3, 7, 6, 0, 477), 51, 0), ((15, .aload_n 0, 1, 0, 0, 0, 0), 5, 0)],
  [((16, .iconst 0, 1, 0, 0, 0, 0), 12, 0), ((17, .putfield 49, 3, 7, 9, 0, 478), 51, 0), ((20, .aload_n 0, 1, 0, 0, 0, 0), 5, 0), ((21, .iconst 0, 1, 0, 0, 0, 0), 12, 0), ((22, .putfield 52, 3, 7, 11, 0, 479), 51, 0), ((25, .aload_n 0, 1, 0, 0, 0, 0), 5, 0), ((26, .getfield 34, 3, 7, 10, 20, 470), 50, 0), ((29, .iconst 0, 1, 0, 0, 0, 0), 12, 0), ((30, .aaload, 1, 0, 0, 0, 0), 58, 0), ((31, .iconst 0, 1, 0, 0, 0, 0), 12, 0)],
  [((32, .iconst 2, 1, 2, 0, 0, 0), 12, 0), ((33, .invokevirtual 55, 3, 69, 3, 8, 480), 56, 0), ((36, .return_, 1, 0, 0, 0, 0), 1000, 0)]])
def al_mX3_make : ev_MeK := (al_yX3_make, prog_5_method_3_code, 2, (some .int), [[((0, .aload_n 0, 1, 0, 0, 0, 0), 5, 0), ((1, .getfield 39, 3, 7, 3, 0, 475), 50, 0), ((4, .sipush 2000, 3, 2000, 0, 0, 0), 14, 0), ((7, .if_icmp .lt 5, 3, 12, 0, 0, 0), 46, 0), ((10, .iconst 0, 1, 0, 0, 0, 0), 12, 0), ((11, .ireturn, 1, 0, 0, 0, 0), 1000, 0), ((12, .aload_n 0, 1, 0, 0, 0, 0), 5, 0), ((13, .dup, 1, 0, 0, 0, 0), 35, 0), ((14, .getfield 39, 3, 7, 3, 0, 475), 50, 0)],
  [((17, .iconst 1, 1, 1, 0, 0, 0), 12, 0), ((18, .iadd, 1, 0, 0, 0, 0), 16, 0), ((19, .putfield 39, 3, 7, 3, 0, 475), 51, 0), ((22, .aload_n 0, 1, 0, 0, 0, 0), 5, 0), ((23, .getfield 11, 3, 7, 0, 20, 463), 50, 0), ((26, .aload_n 0, 1, 0, 0, 0, 0), 5, 0), ((27, .getfield 39, 3, 7, 3, 0, 475), 50, 0), ((30, .iload_n 1, 1, 0, 0, 0, 0), 1, 1), ((31, .i2b, 1, 0, 0, 0, 0), 24, 0)],
  [((32, .bastore, 1, 0, 0, 0, 0), 55, 0), ((33, .aload_n 0, 1, 0, 0, 0, 0), 5, 0), ((34, .getfield 19, 3, 7, 2, 20, 465), 50, 0), ((37, .aload_n 0, 1, 0, 0, 0, 0), 5, 0), ((38, .getfield 39, 3, 7, 3, 0, 475), 50, 0), ((41, .aload_n 0, 1, 0, 0, 0, 0), 5, 0), ((42, .getfield 46, 3, 7, 6, 0, 477), 50, 0), ((45, .iastore, 1, 0, 0, 0, 0), 53, 0), ((46, .aload_n 0, 1, 0, 0, 0, 0), 5, 0), ((47, .getfield 39, 3, 7, 3, 0, 475), 50, 0)],
  [((50, .ireturn, 1, 0, 0, 0, 0), 1000, 0)]])
def al_mX5_init : ev_MeK := (al_yX5_init, prog_7_method_1_code, 1, none, [[((0, .aload_n 0, 1, 0, 0, 0, 0), 5, 0), ((1, .invokespecial 3, 3, 0, 0, 0, 481), 58, 0), ((4, .aload_n 0, 1, 0, 0, 0, 0), 5, 0), ((5, .bipush 64, 2, 64, 0, 0, 0), 13, 0), ((7, .newarray .byte, 2, 1, 0, 0, 43), 58, 0), ((9, .putfield 9, 3, 8, 0, 20, 484), 51, 0), ((12, .aload_n 0, 1, 0, 0, 0, 0), 5, 0), ((13, .bipush 64, 2, 64, 0, 0, 0), 13, 0), ((15, .newarray .long, 2, 10, 0, 0, 53), 58, 0)],
  [((17, .putfield 15, 3, 8, 1, 20, 485), 51, 0), ((20, .aload_n 0, 1, 0, 0, 0, 0), 5, 0), ((21, .bipush 21, 2, 21, 0, 0, 0), 13, 0), ((23, .newarray .int, 2, 0, 0, 0, 40), 58, 0), ((25, .putfield 19, 3, 8, 3, 20, 486), 51, 0), ((28, .aload_n 0, 1, 0, 0, 0, 0), 5, 0), ((29, .bipush 21, 2, 21, 0, 0, 0), 13, 0), ((31, .newarray .int, 2, 0, 0, 0, 40), 58, 0)],
  [((33, .putfield 23, 3, 8, 4, 20, 487), 51, 0), ((36, .aload_n 0, 1, 0, 0, 0, 0), 5, 0), ((37, .bipush 21, 2, 21, 0, 0, 0), 13, 0), ((39, .newarray .int, 2, 0, 0, 0, 40), 58, 0), ((41, .putfield 26, 3, 8, 5, 20, 488), 51, 0), ((44, .aload_n 0, 1, 0, 0, 0, 0), 5, 0), ((45, .bipush 21, 2, 21, 0, 0, 0), 13, 0), ((47, .newarray .int, 2, 0, 0, 0, 40), 58, 0)],
  [((49, .putfield 29, 3, 8, 6, 20, 489), 51, 0), ((52, .aload_n 0, 1, 0, 0, 0, 0), 5, 0), ((53, .bipush 21, 2, 21, 0, 0, 0), 13, 0), ((55, .newarray .int, 2, 0, 0, 0, 40), 58, 0), ((57, .putfield 32, 3, 8, 7, 20, 490), 51, 0), ((60, .aload_n 0, 1, 0, 0, 0, 0), 5, 0), ((61, .bipush 21, 2, 21, 0, 0, 0), 13, 0), ((63, .newarray .int, 2, 0, 0, 0, 40), 58, 0)],
  [((65, .putfield 35, 3, 8, 8, 20, 491), 51, 0), ((68, .aload_n 0, 1, 0, 0, 0, 0), 5, 0), ((69, .bipush 21, 2, 21, 0, 0, 0), 13, 0), ((71, .newarray .int, 2, 0, 0, 0, 40), 58, 0), ((73, .putfield 38, 3, 8, 9, 20, 492), 51, 0), ((76, .return_, 1, 0, 0, 0, 0), 1000, 0)]])
def al_mX5_open : ev_MeK := (al_yX5_open, prog_7_method_2_code, 3, none, [[((0, .aload_n 0, 1, 0, 0, 0, 0), 5, 0), ((1, .iload_n 1, 1, 0, 0, 0, 0), 1, 1), ((2, .putfield 41, 3, 8, 12, 0, 493), 51, 0), ((5, .aload_n 0, 1, 0, 0, 0, 0), 5, 0), ((6, .iload_n 2, 1, 0, 0, 0, 0), 1, 2), ((7, .putfield 45, 3, 8, 11, 0, 494), 51, 0), ((10, .aload_n 0, 1, 0, 0, 0, 0), 5, 0), ((11, .iconst 0, 1, 0, 0, 0, 0), 12, 0), ((12, .putfield 48, 3, 8, 2, 0, 495), 51, 0), ((15, .aload_n 0, 1, 0, 0, 0, 0), 5, 0)],
  [((16, .iconst 0, 1, 0, 0, 0, 0), 12, 0), ((17, .putfield 51, 3, 8, 10, 0, 496), 51, 0), ((20, .aload_n 0, 1, 0, 0, 0, 0), 5, 0), ((21, .iconst (-1), 1, 4294967295, 0, 0, 0), 12, 0), ((22, .putfield 54, 3, 8, 14, 0, 497), 51, 0), ((25, .aload_n 0, 1, 0, 0, 0, 0), 5, 0), ((26, .iconst 0, 1, 0, 0, 0, 0), 12, 0), ((27, .putfield 57, 3, 8, 15, 0, 498), 51, 0), ((30, .return_, 1, 0, 0, 0, 0), 1000, 0)]])
def al_mX5_enter : ev_MeK := (al_yX5_enter, prog_7_method_13_code, 8, none, [[((0, .aload_n 0, 1, 0, 0, 0, 0), 5, 0), ((1, .dup, 1, 0, 0, 0, 0), 35, 0), ((2, .getfield 51, 3, 8, 10, 0, 496), 50, 0), ((5, .iconst 1, 1, 1, 0, 0, 0), 12, 0), ((6, .iadd, 1, 0, 0, 0, 0), 16, 0), ((7, .putfield 51, 3, 8, 10, 0, 496), 51, 0), ((10, .aload_n 0, 1, 0, 0, 0, 0), 5, 0), ((11, .getfield 19, 3, 8, 3, 20, 486), 50, 0), ((14, .aload_n 0, 1, 0, 0, 0, 0), 5, 0), ((15, .getfield 51, 3, 8, 10, 0, 496), 50, 0)],
  [((18, .iload_n 1, 1, 0, 0, 0, 0), 1, 1), ((19, .iastore, 1, 0, 0, 0, 0), 53, 0), ((20, .aload_n 0, 1, 0, 0, 0, 0), 5, 0), ((21, .getfield 23, 3, 8, 4, 20, 487), 50, 0), ((24, .aload_n 0, 1, 0, 0, 0, 0), 5, 0), ((25, .getfield 51, 3, 8, 10, 0, 496), 50, 0), ((28, .iload_n 2, 1, 0, 0, 0, 0), 1, 2), ((29, .iastore, 1, 0, 0, 0, 0), 53, 0), ((30, .aload_n 0, 1, 0, 0, 0, 0), 5, 0), ((31, .getfield 26, 3, 8, 5, 20, 488), 50, 0)],
  [((34, .aload_n 0, 1, 0, 0, 0, 0), 5, 0), ((35, .getfield 51, 3, 8, 10, 0, 496), 50, 0), ((38, .iload_n 3, 1, 0, 0, 0, 0), 1, 3), ((39, .iastore, 1, 0, 0, 0, 0), 53, 0), ((40, .aload_n 0, 1, 0, 0, 0, 0), 5, 0), ((41, .getfield 29, 3, 8, 6, 20, 489), 50, 0), ((44, .aload_n 0, 1, 0, 0, 0, 0), 5, 0), ((45, .getfield 51, 3, 8, 10, 0, 496), 50, 0)],
  [((48, .iload 4, 2, 0, 0, 0, 0), 0, 4), ((50, .iastore, 1, 0, 0, 0, 0), 53, 0), ((51, .aload_n 0, 1, 0, 0, 0, 0), 5, 0), ((52, .getfield 32, 3, 8, 7, 20, 490), 50, 0), ((55, .aload_n 0, 1, 0, 0, 0, 0), 5, 0), ((56, .getfield 51, 3, 8, 10, 0, 496), 50, 0), ((59, .iload 5, 2, 0, 0, 0, 0), 0, 5), ((61, .iastore, 1, 0, 0, 0, 0), 53, 0), ((62, .aload_n 0, 1, 0, 0, 0, 0), 5, 0), ((63, .getfield 35, 3, 8, 8, 20, 491), 50, 0)],
  [((66, .aload_n 0, 1, 0, 0, 0, 0), 5, 0), ((67, .getfield 51, 3, 8, 10, 0, 496), 50, 0), ((70, .iload 6, 2, 0, 0, 0, 0), 0, 6), ((72, .iastore, 1, 0, 0, 0, 0), 53, 0), ((73, .aload_n 0, 1, 0, 0, 0, 0), 5, 0), ((74, .getfield 38, 3, 8, 9, 20, 492), 50, 0), ((77, .aload_n 0, 1, 0, 0, 0, 0), 5, 0), ((78, .getfield 51, 3, 8, 10, 0, 496), 50, 0)],
  [((81, .iload 7, 2, 0, 0, 0, 0), 0, 7), ((83, .iastore, 1, 0, 0, 0, 0), 53, 0), ((84, .return_, 1, 0, 0, 0, 0), 1000, 0)]])
def al_mX10_init : ev_MeK := (al_yX10_init, prog_12_method_1_code, 3, none, [[((0, .aload_n 0, 1, 0, 0, 0, 0), 5, 0), ((1, .invokespecial 3, 3, 0, 0, 0, 499), 58, 0), ((4, .aload_n 0, 1, 0, 0, 0, 0), 5, 0), ((5, .aload_n 1, 1, 0, 0, 0, 0), 5, 1), ((6, .putfield 9, 3, 9, 0, 20, 502), 51, 0), ((9, .aload_n 0, 1, 0, 0, 0, 0), 5, 0), ((10, .aload_n 2, 1, 0, 0, 0, 0), 5, 2), ((11, .putfield 15, 3, 9, 1, 20, 503), 51, 0), ((14, .return_, 1, 0, 0, 0, 0), 1000, 0)]])
def al_mX10_open : ev_MeK := (al_yX10_open, prog_12_method_2_code, 2, none, [[((0, .aload_n 0, 1, 0, 0, 0, 0), 5, 0), ((1, .iload_n 1, 1, 0, 0, 0, 0), 1, 1), ((2, .putfield 19, 3, 9, 2, 0, 504), 51, 0), ((5, .aload_n 0, 1, 0, 0, 0, 0), 5, 0), ((6, .iconst 0, 1, 0, 0, 0, 0), 12, 0), ((7, .putfield 23, 3, 9, 3, 0, 505), 51, 0), ((10, .aload_n 0, 1, 0, 0, 0, 0), 5, 0), ((11, .iconst 1, 1, 1, 0, 0, 0), 12, 0), ((12, .putfield 26, 3, 9, 6, 0, 506), 51, 0), ((15, .aload_n 0, 1, 0, 0, 0, 0), 5, 0)],
  [((16, .iconst 0, 1, 0, 0, 0, 0), 12, 0), ((17, .putfield 29, 3, 9, 7, 0, 507), 51, 0), ((20, .aload_n 0, 1, 0, 0, 0, 0), 5, 0), ((21, .iconst 0, 1, 0, 0, 0, 0), 12, 0), ((22, .putfield 32, 3, 9, 4, 0, 508), 51, 0), ((25, .return_, 1, 0, 0, 0, 0), 1000, 0)]])
def al_mX10_begin : ev_MeK := (al_yX10_begin, prog_12_method_4_code, 3, (some .int), [[((0, .aload_n 0, 1, 0, 0, 0, 0), 5, 0), ((1, .getfield 32, 3, 9, 4, 0, 508), 50, 0), ((4, .iconst 5, 1, 5, 0, 0, 0), 12, 0), ((5, .if_icmp .ne 5, 3, 10, 0, 0, 0), 45, 0), ((8, .iconst 5, 1, 5, 0, 0, 0), 12, 0), ((9, .ireturn, 1, 0, 0, 0, 0), 1000, 0), ((10, .aload_n 0, 1, 0, 0, 0, 0), 5, 0), ((11, .aload_n 0, 1, 0, 0, 0, 0), 5, 0), ((12, .getfield 23, 3, 9, 3, 0, 505), 50, 0), ((15, .invokevirtual 35, 3, 74, 2, 9, 509), 56, 0)],
  [((18, .istore_n 1, 1, 0, 0, 0, 0), 7, 1), ((19, .aload_n 0, 1, 0, 0, 0, 0), 5, 0), ((20, .getfield 23, 3, 9, 3, 0, 505), 50, 0), ((23, .istore_n 2, 1, 0, 0, 0, 0), 7, 2), ((24, .iload_n 2, 1, 0, 0, 0, 0), 1, 2), ((25, .iload_n 1, 1, 0, 0, 0, 0), 1, 1), ((26, .if_icmp .ge 30, 3, 56, 0, 0, 0), 47, 0), ((29, .aload_n 0, 1, 0, 0, 0, 0), 5, 0), ((30, .getfield 9, 3, 9, 0, 20, 502), 50, 0)],
  [((33, .iload_n 2, 1, 0, 0, 0, 0), 1, 2), ((34, .baload, 1, 0, 0, 0, 0), 54, 0), ((35, .bipush 10, 2, 10, 0, 0, 0), 13, 0), ((37, .if_icmp .ne 13, 3, 50, 0, 0, 0), 45, 0), ((40, .aload_n 0, 1, 0, 0, 0, 0), 5, 0), ((41, .dup, 1, 0, 0, 0, 0), 35, 0), ((42, .getfield 26, 3, 9, 6, 0, 506), 50, 0), ((45, .iconst 1, 1, 1, 0, 0, 0), 12, 0), ((46, .iadd, 1, 0, 0, 0, 0), 16, 0), ((47, .putfield 26, 3, 9, 6, 0, 506), 51, 0)],
  [((50, .iinc 2 1, 3, 1, 0, 0, 0), 36, 2), ((53, .goto (-29), 3, 24, 0, 0, 0), 37, 0), ((56, .aload_n 0, 1, 0, 0, 0, 0), 5, 0), ((57, .iload_n 1, 1, 0, 0, 0, 0), 1, 1), ((58, .putfield 39, 3, 9, 5, 0, 510), 51, 0), ((61, .aload_n 0, 1, 0, 0, 0, 0), 5, 0), ((62, .iload_n 1, 1, 0, 0, 0, 0), 1, 1), ((63, .putfield 23, 3, 9, 3, 0, 505), 51, 0)],
  [((66, .aload_n 0, 1, 0, 0, 0, 0), 5, 0), ((67, .getfield 39, 3, 9, 5, 0, 510), 50, 0), ((70, .aload_n 0, 1, 0, 0, 0, 0), 5, 0), ((71, .getfield 19, 3, 9, 2, 0, 504), 50, 0), ((74, .if_icmp .lt 13, 3, 87, 0, 0, 0), 46, 0), ((77, .aload_n 0, 1, 0, 0, 0, 0), 5, 0), ((78, .iconst 0, 1, 0, 0, 0, 0), 12, 0), ((79, .putfield 32, 3, 9, 4, 0, 508), 51, 0)],
  [((82, .aload_n 0, 1, 0, 0, 0, 0), 5, 0), ((83, .getfield 32, 3, 9, 4, 0, 508), 50, 0), ((86, .ireturn, 1, 0, 0, 0, 0), 1000, 0), ((87, .aload_n 0, 1, 0, 0, 0, 0), 5, 0), ((88, .dup, 1, 0, 0, 0, 0), 35, 0), ((89, .getfield 29, 3, 9, 7, 0, 507), 50, 0), ((92, .iconst 1, 1, 1, 0, 0, 0), 12, 0), ((93, .iadd, 1, 0, 0, 0, 0), 16, 0), ((94, .putfield 29, 3, 9, 7, 0, 507), 51, 0)],
  [((97, .aload_n 0, 1, 0, 0, 0, 0), 5, 0), ((98, .getfield 9, 3, 9, 0, 20, 502), 50, 0), ((101, .aload_n 0, 1, 0, 0, 0, 0), 5, 0), ((102, .getfield 39, 3, 9, 5, 0, 510), 50, 0), ((105, .baload, 1, 0, 0, 0, 0), 54, 0), ((106, .istore_n 2, 1, 0, 0, 0, 0), 7, 2), ((107, .iload_n 2, 1, 0, 0, 0, 0), 1, 2), ((108, .invokestatic 42, 3, 188, 1, 0, 511), 57, 0), ((111, .ifCond .eq 5, 3, 116, 0, 0, 0), 38, 0)],
  [((114, .iconst 2, 1, 2, 0, 0, 0), 12, 0), ((115, .ireturn, 1, 0, 0, 0, 0), 1000, 0), ((116, .iload_n 2, 1, 0, 0, 0, 0), 1, 2), ((117, .invokestatic 46, 3, 187, 1, 0, 512), 57, 0), ((120, .ifCond .eq 5, 3, 125, 0, 0, 0), 38, 0), ((123, .iconst 3, 1, 3, 0, 0, 0), 12, 0), ((124, .ireturn, 1, 0, 0, 0, 0), 1000, 0), ((125, .iload_n 2, 1, 0, 0, 0, 0), 1, 2), ((126, .bipush 34, 2, 34, 0, 0, 0), 13, 0)],
  [((128, .if_icmp .eq 9, 3, 137, 0, 0, 0), 44, 0), ((131, .iload_n 2, 1, 0, 0, 0, 0), 1, 2), ((132, .bipush 39, 2, 39, 0, 0, 0), 13, 0), ((134, .if_icmp .ne 7, 3, 141, 0, 0, 0), 45, 0), ((137, .iconst 4, 1, 4, 0, 0, 0), 12, 0), ((138, .goto 4, 3, 142, 0, 0, 0), 37, 0), ((141, .iconst 1, 1, 1, 0, 0, 0), 12, 0), ((142, .ireturn, 1, 0, 0, 0, 0), 1000, 0)]])
def al_mX10_behindBlanks : ev_MeK := (al_yX10_behindBlanks, prog_12_method_7_code, 4, (some .int), [[((0, .iload_n 1, 1, 0, 0, 0, 0), 1, 1), ((1, .istore_n 2, 1, 0, 0, 0, 0), 7, 2), ((2, .iload_n 2, 1, 0, 0, 0, 0), 1, 2), ((3, .aload_n 0, 1, 0, 0, 0, 0), 5, 0), ((4, .getfield 19, 3, 9, 2, 0, 504), 50, 0), ((7, .if_icmp .ge 83, 3, 90, 0, 0, 0), 47, 0), ((10, .aload_n 0, 1, 0, 0, 0, 0), 5, 0), ((11, .getfield 9, 3, 9, 0, 20, 502), 50, 0), ((14, .iload_n 2, 1, 0, 0, 0, 0), 1, 2), ((15, .baload, 1, 0, 0, 0, 0), 54, 0)],
  [((16, .istore_n 3, 1, 0, 0, 0, 0), 7, 3), ((17, .iload_n 3, 1, 0, 0, 0, 0), 1, 3), ((18, .bipush 45, 2, 45, 0, 0, 0), 13, 0), ((20, .if_icmp .ne 40, 3, 60, 0, 0, 0), 45, 0), ((23, .aload_n 0, 1, 0, 0, 0, 0), 5, 0), ((24, .iload_n 2, 1, 0, 0, 0, 0), 1, 2), ((25, .iconst 1, 1, 1, 0, 0, 0), 12, 0), ((26, .iadd, 1, 0, 0, 0, 0), 16, 0), ((27, .invokevirtual 49, 3, 186, 2, 9, 513), 56, 0), ((30, .bipush 45, 2, 45, 0, 0, 0), 13, 0)],
  [((32, .if_icmp .ne 28, 3, 60, 0, 0, 0), 45, 0), ((35, .iload_n 2, 1, 0, 0, 0, 0), 1, 2), ((36, .aload_n 0, 1, 0, 0, 0, 0), 5, 0), ((37, .getfield 19, 3, 9, 2, 0, 504), 50, 0), ((40, .if_icmp .ge 47, 3, 87, 0, 0, 0), 47, 0), ((43, .aload_n 0, 1, 0, 0, 0, 0), 5, 0), ((44, .getfield 9, 3, 9, 0, 20, 502), 50, 0), ((47, .iload_n 2, 1, 0, 0, 0, 0), 1, 2)],
  [((48, .baload, 1, 0, 0, 0, 0), 54, 0), ((49, .bipush 10, 2, 10, 0, 0, 0), 13, 0), ((51, .if_icmp .eq 36, 3, 87, 0, 0, 0), 44, 0), ((54, .iinc 2 1, 3, 1, 0, 0, 0), 36, 2), ((57, .goto (-22), 3, 35, 0, 0, 0), 37, 0), ((60, .iload_n 3, 1, 0, 0, 0, 0), 1, 3), ((61, .bipush 32, 2, 32, 0, 0, 0), 13, 0), ((63, .if_icmp .eq 21, 3, 84, 0, 0, 0), 44, 0)],
  [((66, .iload_n 3, 1, 0, 0, 0, 0), 1, 3), ((67, .bipush 9, 2, 9, 0, 0, 0), 13, 0), ((69, .if_icmp .eq 15, 3, 84, 0, 0, 0), 44, 0), ((72, .iload_n 3, 1, 0, 0, 0, 0), 1, 3), ((73, .bipush 13, 2, 13, 0, 0, 0), 13, 0), ((75, .if_icmp .eq 9, 3, 84, 0, 0, 0), 44, 0), ((78, .iload_n 3, 1, 0, 0, 0, 0), 1, 3), ((79, .bipush 10, 2, 10, 0, 0, 0), 13, 0)],
  [((81, .if_icmp .ne 9, 3, 90, 0, 0, 0), 45, 0), ((84, .iinc 2 1, 3, 1, 0, 0, 0), 36, 2), ((87, .goto (-85), 3, 2, 0, 0, 0), 37, 0), ((90, .iload_n 2, 1, 0, 0, 0, 0), 1, 2), ((91, .ireturn, 1, 0, 0, 0, 0), 1000, 0)]])
def al_mX4_init : ev_MeK := (al_yX4_init, prog_6_method_1_code, 4, none, [[((0, .aload_n 0, 1, 0, 0, 0, 0), 5, 0), ((1, .invokespecial 3, 3, 0, 0, 0, 514), 58, 0), ((4, .aload_n 0, 1, 0, 0, 0, 0), 5, 0), ((5, .sipush 1320, 3, 1320, 0, 0, 0), 14, 0), ((8, .newarray .int, 2, 0, 0, 0, 40), 58, 0), ((10, .putfield 11, 3, 10, 10, 20, 517), 51, 0), ((13, .aload_n 0, 1, 0, 0, 0, 0), 5, 0), ((14, .aload_n 1, 1, 0, 0, 0, 0), 5, 1), ((15, .putfield 15, 3, 10, 0, 20, 518), 51, 0)],
  [((18, .aload_n 0, 1, 0, 0, 0, 0), 5, 0), ((19, .aload_n 2, 1, 0, 0, 0, 0), 5, 2), ((20, .putfield 19, 3, 10, 1, 20, 519), 51, 0), ((23, .aload_n 0, 1, 0, 0, 0, 0), 5, 0), ((24, .aload_n 3, 1, 0, 0, 0, 0), 5, 3), ((25, .putfield 23, 3, 10, 2, 20, 520), 51, 0), ((28, .aload_n 0, 1, 0, 0, 0, 0), 5, 0), ((29, .new 27, 3, 11, 12, 0, 521), 58, 0)],
  [((32, .dup, 1, 0, 0, 0, 0), 35, 0), ((33, .aload_n 2, 1, 0, 0, 0, 0), 5, 2), ((34, .invokespecial 29, 3, 81, 2, 0, 524), 58, 0), ((37, .putfield 32, 3, 10, 3, 20, 525), 51, 0), ((40, .aload_n 3, 1, 0, 0, 0, 0), 5, 3), ((41, .invokevirtual 36, 3, 10, 1, 4, 526), 56, 0), ((44, .aload_n 3, 1, 0, 0, 0, 0), 5, 3), ((45, .ldc 41, 2, 92233720368547758084, 0, 0, 0), 59, 0), ((47, .invokevirtual 43, 3, 13, 2, 4, 527), 56, 0)],
  [((50, .aload_n 0, 1, 0, 0, 0, 0), 5, 0), ((51, .aload_n 3, 1, 0, 0, 0, 0), 5, 3), ((52, .invokevirtual 47, 3, 11, 1, 4, 528), 56, 0), ((55, .putfield 51, 3, 10, 12, 0, 529), 51, 0), ((58, .return_, 1, 0, 0, 0, 0), 1000, 0)]])
def al_mX4_judge : ev_MeK := (al_yX4_judge, prog_6_method_2_code, 2, (some .int), [[((0, .aload_n 0, 1, 0, 0, 0, 0), 5, 0), ((1, .getfield 23, 3, 10, 2, 20, 520), 50, 0), ((4, .invokevirtual 55, 3, 53, 1, 4, 530), 56, 0), ((7, .aload_n 0, 1, 0, 0, 0, 0), 5, 0), ((8, .getfield 23, 3, 10, 2, 20, 520), 50, 0), ((11, .invokevirtual 58, 3, 52, 1, 4, 531), 56, 0), ((14, .aload_n 0, 1, 0, 0, 0, 0), 5, 0), ((15, .getfield 19, 3, 10, 1, 20, 519), 50, 0)],
  [((18, .invokevirtual 61, 3, 56, 1, 5, 532), 56, 0), ((21, .aload_n 0, 1, 0, 0, 0, 0), 5, 0), ((22, .getfield 32, 3, 10, 3, 20, 525), 50, 0), ((25, .invokevirtual 66, 3, 82, 1, 11, 533), 56, 0), ((28, .aload_n 0, 1, 0, 0, 0, 0), 5, 0), ((29, .iconst 0, 1, 0, 0, 0, 0), 12, 0), ((30, .putfield 67, 3, 10, 4, 0, 534), 51, 0)],
  [((33, .aload_n 0, 1, 0, 0, 0, 0), 5, 0), ((34, .iconst 0, 1, 0, 0, 0, 0), 12, 0), ((35, .putfield 70, 3, 10, 11, 0, 535), 51, 0), ((38, .aload_n 0, 1, 0, 0, 0, 0), 5, 0), ((39, .getfield 19, 3, 10, 1, 20, 519), 50, 0), ((42, .getfield 73, 3, 5, 7, 20, 536), 50, 0), ((45, .aload_n 0, 1, 0, 0, 0, 0), 5, 0), ((46, .getfield 19, 3, 10, 1, 20, 519), 50, 0)],
  [((49, .iconst 0, 1, 0, 0, 0, 0), 12, 0), ((50, .invokevirtual 76, 3, 57, 2, 5, 537), 56, 0), ((53, .iconst 0, 1, 0, 0, 0, 0), 12, 0), ((54, .iastore, 1, 0, 0, 0, 0), 53, 0), ((55, .aload_n 0, 1, 0, 0, 0, 0), 5, 0), ((56, .getfield 19, 3, 10, 1, 20, 519), 50, 0), ((59, .getfield 80, 3, 5, 12, 20, 538), 50, 0), ((62, .iconst 0, 1, 0, 0, 0, 0), 12, 0), ((63, .iconst 1, 1, 1, 0, 0, 0), 12, 0)],
  [((64, .bastore, 1, 0, 0, 0, 0), 55, 0), ((65, .aload_n 0, 1, 0, 0, 0, 0), 5, 0), ((66, .getfield 32, 3, 10, 3, 20, 525), 50, 0), ((69, .iconst 0, 1, 0, 0, 0, 0), 12, 0), ((70, .invokevirtual 84, 3, 83, 2, 11, 539), 56, 0), ((73, .aload_n 0, 1, 0, 0, 0, 0), 5, 0), ((74, .getfield 15, 3, 10, 0, 20, 518), 50, 0), ((77, .iload_n 1, 1, 0, 0, 0, 0), 1, 1), ((78, .invokevirtual 88, 3, 72, 2, 9, 540), 56, 0)],
  [((81, .aload_n 0, 1, 0, 0, 0, 0), 5, 0), ((82, .invokevirtual 93, 3, 77, 1, 10, 541), 56, 0), ((85, .aload_n 0, 1, 0, 0, 0, 0), 5, 0), ((86, .iconst 0, 1, 0, 0, 0, 0), 12, 0), ((87, .iconst 0, 1, 0, 0, 0, 0), 12, 0), ((88, .iconst 0, 1, 0, 0, 0, 0), 12, 0), ((89, .iconst 0, 1, 0, 0, 0, 0), 12, 0), ((90, .invokevirtual 96, 3, 78, 5, 10, 542), 56, 0), ((93, .pop, 1, 0, 0, 0, 0), 58, 0), ((94, .aload_n 0, 1, 0, 0, 0, 0), 5, 0), ((95, .iconst 1, 1, 1, 0, 0, 0), 12, 0)],
  [((96, .invokevirtual 100, 3, 80, 2, 10, 543), 56, 0), ((99, .aload_n 0, 1, 0, 0, 0, 0), 5, 0), ((100, .getfield 15, 3, 10, 0, 20, 518), 50, 0), ((103, .getfield 103, 3, 9, 4, 0, 544), 50, 0), ((106, .ifCond .eq 8, 3, 114, 0, 0, 0), 38, 0), ((109, .aload_n 0, 1, 0, 0, 0, 0), 5, 0), ((110, .iconst 2, 1, 2, 0, 0, 0), 12, 0), ((111, .invokevirtual 106, 3, 109, 2, 10, 545), 56, 0)],
  [((114, .aload_n 0, 1, 0, 0, 0, 0), 5, 0), ((115, .bipush 20, 2, 20, 0, 0, 0), 13, 0), ((117, .aload_n 0, 1, 0, 0, 0, 0), 5, 0), ((118, .getfield 32, 3, 10, 3, 20, 525), 50, 0), ((121, .invokevirtual 109, 3, 84, 1, 11, 546), 56, 0), ((124, .iconst 0, 1, 0, 0, 0, 0), 12, 0), ((125, .iconst 0, 1, 0, 0, 0, 0), 12, 0), ((126, .invokevirtual 96, 3, 78, 5, 10, 542), 56, 0)],
  [((129, .pop, 1, 0, 0, 0, 0), 58, 0), ((130, .aload_n 0, 1, 0, 0, 0, 0), 5, 0), ((131, .getfield 67, 3, 10, 4, 0, 534), 50, 0), ((134, .ireturn, 1, 0, 0, 0, 0), 1000, 0)]])
def al_mX4_next : ev_MeK := (al_yX4_next, prog_6_method_4_code, 1, none, [[((0, .aload_n 0, 1, 0, 0, 0, 0), 5, 0), ((1, .getfield 15, 3, 10, 0, 20, 518), 50, 0), ((4, .getfield 112, 3, 9, 7, 0, 547), 50, 0), ((7, .sipush 1500, 3, 1500, 0, 0, 0), 14, 0), ((10, .if_icmp .le 18, 3, 28, 0, 0, 0), 49, 0), ((13, .aload_n 0, 1, 0, 0, 0, 0), 5, 0), ((14, .getfield 15, 3, 10, 0, 20, 518), 50, 0)],
  [((17, .getfield 103, 3, 9, 4, 0, 544), 50, 0), ((20, .ifCond .eq 8, 3, 28, 0, 0, 0), 38, 0), ((23, .aload_n 0, 1, 0, 0, 0, 0), 5, 0), ((24, .iconst 3, 1, 3, 0, 0, 0), 12, 0), ((25, .invokevirtual 106, 3, 109, 2, 10, 545), 56, 0), ((28, .aload_n 0, 1, 0, 0, 0, 0), 5, 0), ((29, .getfield 15, 3, 10, 0, 20, 518), 50, 0)],
  [((32, .invokevirtual 130, 3, 73, 1, 9, 548), 56, 0), ((35, .tableswitch 69 1 4 #[59, 29, 39, 49], 29, 0, 0, 0, 0), 58, 0)],
  [],
  [((64, .aload_n 0, 1, 0, 0, 0, 0), 5, 0), ((65, .getfield 15, 3, 10, 0, 20, 518), 50, 0), ((68, .invokevirtual 132, 3, 190, 1, 9, 549), 56, 0), ((71, .goto 33, 3, 104, 0, 0, 0), 37, 0), ((74, .aload_n 0, 1, 0, 0, 0, 0), 5, 0), ((75, .getfield 15, 3, 10, 0, 20, 518), 50, 0), ((78, .invokevirtual 135, 3, 191, 1, 9, 550), 56, 0)],
  [((81, .goto 23, 3, 104, 0, 0, 0), 37, 0), ((84, .aload_n 0, 1, 0, 0, 0, 0), 5, 0), ((85, .getfield 15, 3, 10, 0, 20, 518), 50, 0), ((88, .invokevirtual 138, 3, 192, 1, 9, 551), 56, 0), ((91, .goto 13, 3, 104, 0, 0, 0), 37, 0), ((94, .aload_n 0, 1, 0, 0, 0, 0), 5, 0), ((95, .getfield 15, 3, 10, 0, 20, 518), 50, 0)],
  [((98, .invokevirtual 141, 3, 194, 1, 9, 552), 56, 0), ((101, .goto 3, 3, 104, 0, 0, 0), 37, 0), ((104, .return_, 1, 0, 0, 0, 0), 1000, 0)]])
def al_mX4_emit : ev_MeK := (al_yX4_emit, prog_6_method_7_code, 5, (some .int), [[((0, .aload_n 0, 1, 0, 0, 0, 0), 5, 0), ((1, .getfield 19, 3, 10, 1, 20, 519), 50, 0), ((4, .iload_n 1, 1, 0, 0, 0, 0), 1, 1), ((5, .iload_n 2, 1, 0, 0, 0, 0), 1, 2), ((6, .iload_n 3, 1, 0, 0, 0, 0), 1, 3), ((7, .iload 4, 2, 0, 0, 0, 0), 0, 4), ((9, .invokevirtual 144, 3, 58, 5, 5, 553), 56, 0), ((12, .ireturn, 1, 0, 0, 0, 0), 1000, 0)]])
def al_mX4_startsStatement : ev_MeK := (al_yX4_startsStatement, prog_6_method_10_code, 1, (some .boolean), [[((0, .aload_n 0, 1, 0, 0, 0, 0), 5, 0), ((1, .getfield 15, 3, 10, 0, 20, 518), 50, 0), ((4, .getfield 103, 3, 9, 4, 0, 544), 50, 0), ((7, .lookupswitch 99 #[(2, 97), (11, 97), (12, 97), (17, 97), (18, 97), (19, 97), (21, 97), (25, 97), (30, 97), (51, 97), (57, 97)], 97, 0, 0, 0, 0), 59, 0)],
  [],
  [],
  [],
  [],
  [],
  [((104, .iconst 1, 1, 1, 0, 0, 0), 12, 0), ((105, .ireturn, 1, 0, 0, 0, 0), 1000, 0), ((106, .iconst 0, 1, 0, 0, 0, 0), 12, 0), ((107, .ireturn, 1, 0, 0, 0, 0), 1000, 0)]])
def al_mX4_block : ev_MeK := (al_yX4_block, prog_6_method_12_code, 3, none, [[((0, .iconst 0, 1, 0, 0, 0, 0), 12, 0), ((1, .istore_n 2, 1, 0, 0, 0, 0), 7, 2), ((2, .iload_n 2, 1, 0, 0, 0, 0), 1, 2), ((3, .sipush 1500, 3, 1500, 0, 0, 0), 14, 0), ((6, .if_icmp .gt 21, 3, 27, 0, 0, 0), 48, 0), ((9, .aload_n 0, 1, 0, 0, 0, 0), 5, 0), ((10, .invokevirtual 154, 3, 79, 1, 10, 554), 56, 0), ((13, .ifCond .eq 14, 3, 27, 0, 0, 0), 38, 0)],
  [((16, .aload_n 0, 1, 0, 0, 0, 0), 5, 0), ((17, .iload_n 1, 1, 0, 0, 0, 0), 1, 1), ((18, .invokevirtual 158, 3, 116, 2, 10, 555), 56, 0), ((21, .iinc 2 1, 3, 1, 0, 0, 0), 36, 2), ((24, .goto (-22), 3, 2, 0, 0, 0), 37, 0), ((27, .aload_n 0, 1, 0, 0, 0, 0), 5, 0), ((28, .getfield 15, 3, 10, 0, 20, 518), 50, 0), ((31, .getfield 103, 3, 9, 4, 0, 544), 50, 0)],
  [((34, .bipush 26, 2, 26, 0, 0, 0), 13, 0), ((36, .if_icmp .ne 8, 3, 44, 0, 0, 0), 45, 0), ((39, .aload_n 0, 1, 0, 0, 0, 0), 5, 0), ((40, .iload_n 1, 1, 0, 0, 0, 0), 1, 1), ((41, .invokevirtual 161, 3, 117, 2, 10, 556), 56, 0), ((44, .return_, 1, 0, 0, 0, 0), 1000, 0)]])
def al_mX7_init : ev_MeK := (al_yX7_init, prog_9_method_1_code, 2, none, [[((0, .aload_n 0, 1, 0, 0, 0, 0), 5, 0), ((1, .invokespecial 3, 3, 0, 0, 0, 557), 58, 0), ((4, .aload_n 0, 1, 0, 0, 0, 0), 5, 0), ((5, .sipush 1200, 3, 1200, 0, 0, 0), 14, 0), ((8, .newarray .int, 2, 0, 0, 0, 40), 58, 0), ((10, .putfield 13, 3, 11, 1, 20, 560), 51, 0), ((13, .aload_n 0, 1, 0, 0, 0, 0), 5, 0), ((14, .sipush 1200, 3, 1200, 0, 0, 0), 14, 0)],
  [((17, .newarray .int, 2, 0, 0, 0, 40), 58, 0), ((19, .putfield 17, 3, 11, 2, 20, 561), 51, 0), ((22, .aload_n 0, 1, 0, 0, 0, 0), 5, 0), ((23, .bipush 24, 2, 24, 0, 0, 0), 13, 0), ((25, .newarray .int, 2, 0, 0, 0, 40), 58, 0), ((27, .putfield 20, 3, 11, 4, 20, 562), 51, 0), ((30, .aload_n 0, 1, 0, 0, 0, 0), 5, 0), ((31, .bipush 24, 2, 24, 0, 0, 0), 13, 0)],
  [((33, .newarray .int, 2, 0, 0, 0, 40), 58, 0), ((35, .putfield 23, 3, 11, 5, 20, 563), 51, 0), ((38, .aload_n 0, 1, 0, 0, 0, 0), 5, 0), ((39, .bipush 24, 2, 24, 0, 0, 0), 13, 0), ((41, .newarray .int, 2, 0, 0, 0, 40), 58, 0), ((43, .putfield 26, 3, 11, 6, 20, 564), 51, 0), ((46, .aload_n 0, 1, 0, 0, 0, 0), 5, 0), ((47, .bipush 24, 2, 24, 0, 0, 0), 13, 0)],
  [((49, .newarray .int, 2, 0, 0, 0, 40), 58, 0), ((51, .putfield 29, 3, 11, 7, 20, 565), 51, 0), ((54, .aload_n 0, 1, 0, 0, 0, 0), 5, 0), ((55, .sipush 1500, 3, 1500, 0, 0, 0), 14, 0), ((58, .newarray .int, 2, 0, 0, 0, 40), 58, 0), ((60, .putfield 32, 3, 11, 9, 20, 566), 51, 0), ((63, .aload_n 0, 1, 0, 0, 0, 0), 5, 0)],
  [((64, .aload_n 1, 1, 0, 0, 0, 0), 5, 1), ((65, .putfield 35, 3, 11, 0, 20, 567), 51, 0), ((68, .return_, 1, 0, 0, 0, 0), 1000, 0)]])
def al_mX7_clear : ev_MeK := (al_yX7_clear, prog_9_method_2_code, 1, none, [[((0, .aload_n 0, 1, 0, 0, 0, 0), 5, 0), ((1, .iconst (-1), 1, 4294967295, 0, 0, 0), 12, 0), ((2, .putfield 39, 3, 11, 8, 0, 568), 51, 0), ((5, .aload_n 0, 1, 0, 0, 0, 0), 5, 0), ((6, .iconst 0, 1, 0, 0, 0, 0), 12, 0), ((7, .putfield 43, 3, 11, 3, 0, 569), 51, 0), ((10, .return_, 1, 0, 0, 0, 0), 1000, 0)]])
def al_mX7_enter : ev_MeK := (al_yX7_enter, prog_9_method_3_code, 2, none, [[((0, .aload_n 0, 1, 0, 0, 0, 0), 5, 0), ((1, .dup, 1, 0, 0, 0, 0), 35, 0), ((2, .getfield 39, 3, 11, 8, 0, 568), 50, 0), ((5, .iconst 1, 1, 1, 0, 0, 0), 12, 0), ((6, .iadd, 1, 0, 0, 0, 0), 16, 0), ((7, .putfield 39, 3, 11, 8, 0, 568), 51, 0), ((10, .aload_n 0, 1, 0, 0, 0, 0), 5, 0), ((11, .getfield 20, 3, 11, 4, 20, 562), 50, 0), ((14, .aload_n 0, 1, 0, 0, 0, 0), 5, 0), ((15, .getfield 39, 3, 11, 8, 0, 568), 50, 0)],
  [((18, .iload_n 1, 1, 0, 0, 0, 0), 1, 1), ((19, .iastore, 1, 0, 0, 0, 0), 53, 0), ((20, .aload_n 0, 1, 0, 0, 0, 0), 5, 0), ((21, .getfield 23, 3, 11, 5, 20, 563), 50, 0), ((24, .aload_n 0, 1, 0, 0, 0, 0), 5, 0), ((25, .getfield 39, 3, 11, 8, 0, 568), 50, 0), ((28, .aload_n 0, 1, 0, 0, 0, 0), 5, 0), ((29, .getfield 43, 3, 11, 3, 0, 569), 50, 0)],
  [((32, .iastore, 1, 0, 0, 0, 0), 53, 0), ((33, .aload_n 0, 1, 0, 0, 0, 0), 5, 0), ((34, .getfield 26, 3, 11, 6, 20, 564), 50, 0), ((37, .aload_n 0, 1, 0, 0, 0, 0), 5, 0), ((38, .getfield 39, 3, 11, 8, 0, 568), 50, 0), ((41, .iconst 0, 1, 0, 0, 0, 0), 12, 0), ((42, .iastore, 1, 0, 0, 0, 0), 53, 0), ((43, .aload_n 0, 1, 0, 0, 0, 0), 5, 0), ((44, .getfield 29, 3, 11, 7, 20, 565), 50, 0), ((47, .aload_n 0, 1, 0, 0, 0, 0), 5, 0)],
  [((48, .getfield 39, 3, 11, 8, 0, 568), 50, 0), ((51, .bipush (-2), 2, 4294967294, 0, 0, 0), 13, 0), ((53, .iastore, 1, 0, 0, 0, 0), 53, 0), ((54, .return_, 1, 0, 0, 0, 0), 1000, 0)]])
def al_mX7_height : ev_MeK := (al_yX7_height, prog_9_method_6_code, 1, (some .int), [[((0, .aload_n 0, 1, 0, 0, 0, 0), 5, 0), ((1, .getfield 26, 3, 11, 6, 20, 564), 50, 0), ((4, .aload_n 0, 1, 0, 0, 0, 0), 5, 0), ((5, .getfield 39, 3, 11, 8, 0, 568), 50, 0), ((8, .iaload, 1, 0, 0, 0, 0), 52, 0), ((9, .ireturn, 1, 0, 0, 0, 0), 1000, 0)]])
def al_mX0_init : ev_MeK := (al_yX0_init, prog_2_method_1_code, 4, none, [[((0, .aload_n 0, 1, 0, 0, 0, 0), 5, 0), ((1, .invokespecial 3, 3, 0, 0, 0, 570), 58, 0), ((4, .aload_n 0, 1, 0, 0, 0, 0), 5, 0), ((5, .sipush 2001, 3, 2001, 0, 0, 0), 14, 0), ((8, .newarray .byte, 2, 1, 0, 0, 43), 58, 0), ((10, .putfield 11, 3, 12, 3, 20, 573), 51, 0), ((13, .aload_n 0, 1, 0, 0, 0, 0), 5, 0), ((14, .sipush 2001, 3, 2001, 0, 0, 0), 14, 0)],
  [((17, .newarray .int, 2, 0, 0, 0, 40), 58, 0), ((19, .putfield 17, 3, 12, 4, 20, 574), 51, 0), ((22, .aload_n 0, 1, 0, 0, 0, 0), 5, 0), ((23, .sipush 2001, 3, 2001, 0, 0, 0), 14, 0), ((26, .newarray .int, 2, 0, 0, 0, 40), 58, 0), ((28, .putfield 21, 3, 12, 5, 20, 575), 51, 0), ((31, .aload_n 0, 1, 0, 0, 0, 0), 5, 0)],
  [((32, .sipush 2001, 3, 2001, 0, 0, 0), 14, 0), ((35, .newarray .int, 2, 0, 0, 0, 40), 58, 0), ((37, .putfield 24, 3, 12, 7, 20, 576), 51, 0), ((40, .aload_n 0, 1, 0, 0, 0, 0), 5, 0), ((41, .sipush 2001, 3, 2001, 0, 0, 0), 14, 0), ((44, .newarray .byte, 2, 1, 0, 0, 43), 58, 0), ((46, .putfield 27, 3, 12, 9, 20, 577), 51, 0)],
  [((49, .aload_n 0, 1, 0, 0, 0, 0), 5, 0), ((50, .sipush 2001, 3, 2001, 0, 0, 0), 14, 0), ((53, .newarray .int, 2, 0, 0, 0, 40), 58, 0), ((55, .putfield 30, 3, 12, 10, 20, 578), 51, 0), ((58, .aload_n 0, 1, 0, 0, 0, 0), 5, 0), ((59, .sipush 2001, 3, 2001, 0, 0, 0), 14, 0), ((62, .newarray .int, 2, 0, 0, 0, 40), 58, 0)],
  [((64, .putfield 33, 3, 12, 12, 20, 579), 51, 0), ((67, .aload_n 0, 1, 0, 0, 0, 0), 5, 0), ((68, .aload_n 1, 1, 0, 0, 0, 0), 5, 1), ((69, .putfield 36, 3, 12, 0, 20, 580), 51, 0), ((72, .aload_n 0, 1, 0, 0, 0, 0), 5, 0), ((73, .aload_n 2, 1, 0, 0, 0, 0), 5, 2), ((74, .putfield 40, 3, 12, 1, 20, 581), 51, 0), ((77, .aload_n 0, 1, 0, 0, 0, 0), 5, 0), ((78, .aload_n 3, 1, 0, 0, 0, 0), 5, 3), ((79, .putfield 44, 3, 12, 2, 20, 582), 51, 0)],
  [((82, .return_, 1, 0, 0, 0, 0), 1000, 0)]])
def al_mX0_clear : ev_MeK := (al_yX0_clear, prog_2_method_2_code, 1, none, [[((0, .aload_n 0, 1, 0, 0, 0, 0), 5, 0), ((1, .getfield 27, 3, 12, 9, 20, 577), 50, 0), ((4, .iconst 0, 1, 0, 0, 0, 0), 12, 0), ((5, .invokestatic 48, 3, 105, 2, 0, 583), 57, 0), ((8, .aload_n 0, 1, 0, 0, 0, 0), 5, 0), ((9, .iconst 0, 1, 0, 0, 0, 0), 12, 0), ((10, .putfield 54, 3, 12, 11, 0, 584), 51, 0), ((13, .aload_n 0, 1, 0, 0, 0, 0), 5, 0), ((14, .iconst 0, 1, 0, 0, 0, 0), 12, 0), ((15, .putfield 58, 3, 12, 13, 0, 585), 51, 0)],
  [((18, .aload_n 0, 1, 0, 0, 0, 0), 5, 0), ((19, .iconst 0, 1, 0, 0, 0, 0), 12, 0), ((20, .putfield 61, 3, 12, 14, 0, 586), 51, 0), ((23, .return_, 1, 0, 0, 0, 0), 1000, 0)]])
def al_mX2_init : ev_MeK := (al_yX2_init, prog_4_method_1_code, 6, none, [[((0, .aload_n 0, 1, 0, 0, 0, 0), 5, 0), ((1, .invokespecial 3, 3, 0, 0, 0, 587), 58, 0), ((4, .aload_n 0, 1, 0, 0, 0, 0), 5, 0), ((5, .aload_n 1, 1, 0, 0, 0, 0), 5, 1), ((6, .putfield 9, 3, 13, 0, 20, 590), 51, 0), ((9, .aload_n 0, 1, 0, 0, 0, 0), 5, 0), ((10, .aload_n 2, 1, 0, 0, 0, 0), 5, 2), ((11, .putfield 15, 3, 13, 1, 20, 591), 51, 0), ((14, .aload_n 0, 1, 0, 0, 0, 0), 5, 0), ((15, .aload_n 3, 1, 0, 0, 0, 0), 5, 3)],
  [((16, .putfield 19, 3, 13, 2, 20, 592), 51, 0), ((19, .aload_n 0, 1, 0, 0, 0, 0), 5, 0), ((20, .aload 4, 2, 0, 0, 0, 0), 4, 4), ((22, .putfield 23, 3, 13, 3, 20, 593), 51, 0), ((25, .aload_n 0, 1, 0, 0, 0, 0), 5, 0), ((26, .aload 5, 2, 0, 0, 0, 0), 4, 5), ((28, .putfield 27, 3, 13, 4, 20, 594), 51, 0), ((31, .aload_n 0, 1, 0, 0, 0, 0), 5, 0)],
  [((32, .new 31, 3, 14, 16, 0, 595), 58, 0), ((35, .dup, 1, 0, 0, 0, 0), 35, 0), ((36, .aload_n 2, 1, 0, 0, 0, 0), 5, 2), ((37, .aload_n 3, 1, 0, 0, 0, 0), 5, 3), ((38, .aload 4, 2, 0, 0, 0, 0), 4, 4), ((40, .aload 5, 2, 0, 0, 0, 0), 4, 5), ((42, .invokespecial 33, 3, 89, 5, 0, 598), 58, 0), ((45, .putfield 36, 3, 13, 5, 20, 599), 51, 0)],
  [((48, .return_, 1, 0, 0, 0, 0), 1000, 0)]])
def al_mX2_reset : ev_MeK := (al_yX2_reset, prog_4_method_2_code, 1, none, [[((0, .aload_n 0, 1, 0, 0, 0, 0), 5, 0), ((1, .getfield 15, 3, 13, 1, 20, 591), 50, 0), ((4, .invokevirtual 40, 3, 53, 1, 4, 600), 56, 0), ((7, .aload_n 0, 1, 0, 0, 0, 0), 5, 0), ((8, .getfield 23, 3, 13, 3, 20, 593), 50, 0), ((11, .invokevirtual 45, 3, 66, 1, 7, 601), 56, 0), ((14, .aload_n 0, 1, 0, 0, 0, 0), 5, 0), ((15, .getfield 19, 3, 13, 2, 20, 592), 50, 0)],
  [((18, .invokevirtual 50, 3, 60, 1, 6, 602), 56, 0), ((21, .aload_n 0, 1, 0, 0, 0, 0), 5, 0), ((22, .getfield 27, 3, 13, 4, 20, 594), 50, 0), ((25, .invokevirtual 53, 3, 86, 1, 12, 603), 56, 0), ((28, .aload_n 0, 1, 0, 0, 0, 0), 5, 0), ((29, .getfield 36, 3, 13, 5, 20, 599), 50, 0)],
  [((32, .invokevirtual 56, 3, 91, 1, 14, 604), 56, 0), ((35, .aload_n 0, 1, 0, 0, 0, 0), 5, 0), ((36, .iconst 2, 1, 2, 0, 0, 0), 12, 0), ((37, .putfield 59, 3, 13, 7, 0, 605), 51, 0), ((40, .aload_n 0, 1, 0, 0, 0, 0), 5, 0), ((41, .lconst 0, 1, 0, 0, 0, 0), 15, 0), ((42, .putfield 63, 3, 13, 8, 10, 606), 51, 0), ((45, .aload_n 0, 1, 0, 0, 0, 0), 5, 0), ((46, .iconst 0, 1, 0, 0, 0, 0), 12, 0), ((47, .putfield 67, 3, 13, 10, 0, 607), 51, 0)],
  [((50, .aload_n 0, 1, 0, 0, 0, 0), 5, 0), ((51, .iconst 0, 1, 0, 0, 0, 0), 12, 0), ((52, .putfield 70, 3, 13, 11, 0, 608), 51, 0), ((55, .aload_n 0, 1, 0, 0, 0, 0), 5, 0), ((56, .aload_n 0, 1, 0, 0, 0, 0), 5, 0), ((57, .getfield 23, 3, 13, 3, 20, 593), 50, 0), ((60, .getfield 73, 3, 7, 10, 20, 609), 50, 0), ((63, .iconst 0, 1, 0, 0, 0, 0), 12, 0)],
  [((64, .aaload, 1, 0, 0, 0, 0), 58, 0), ((65, .putfield 77, 3, 13, 6, 20, 610), 51, 0), ((68, .aload_n 0, 1, 0, 0, 0, 0), 5, 0), ((69, .getfield 77, 3, 13, 6, 20, 610), 50, 0), ((72, .iconst 0, 1, 0, 0, 0, 0), 12, 0), ((73, .iconst 0, 1, 0, 0, 0, 0), 12, 0), ((74, .aload_n 0, 1, 0, 0, 0, 0), 5, 0), ((75, .getfield 9, 3, 13, 0, 20, 590), 50, 0), ((78, .getfield 83, 3, 5, 7, 20, 611), 50, 0)],
  [((81, .iconst 0, 1, 0, 0, 0, 0), 12, 0), ((82, .iaload, 1, 0, 0, 0, 0), 52, 0), ((83, .iconst 0, 1, 0, 0, 0, 0), 12, 0), ((84, .iconst 0, 1, 0, 0, 0, 0), 12, 0), ((85, .iconst (-1), 1, 4294967295, 0, 0, 0), 12, 0), ((86, .iconst 0, 1, 0, 0, 0, 0), 12, 0), ((87, .invokevirtual 89, 3, 70, 8, 8, 612), 56, 0), ((90, .return_, 1, 0, 0, 0, 0), 1000, 0)]])
def al_mX1_init : ev_MeK := (al_yX1_init, prog_3_method_1_code, 6, none, [[((0, .aload_n 0, 1, 0, 0, 0, 0), 5, 0), ((1, .invokespecial 3, 3, 0, 0, 0, 613), 58, 0), ((4, .aload_n 0, 1, 0, 0, 0, 0), 5, 0), ((5, .bipush 33, 2, 33, 0, 0, 0), 13, 0), ((7, .newarray .int, 2, 0, 0, 0, 40), 58, 0), ((9, .putfield 11, 3, 14, 4, 20, 616), 51, 0), ((12, .aload_n 0, 1, 0, 0, 0, 0), 5, 0), ((13, .bipush 33, 2, 33, 0, 0, 0), 13, 0), ((15, .newarray .int, 2, 0, 0, 0, 40), 58, 0)],
  [((17, .putfield 15, 3, 14, 5, 20, 617), 51, 0), ((20, .aload_n 0, 1, 0, 0, 0, 0), 5, 0), ((21, .iconst 4, 1, 4, 0, 0, 0), 12, 0), ((22, .newarray .int, 2, 0, 0, 0, 40), 58, 0), ((24, .putfield 18, 3, 14, 6, 20, 618), 51, 0), ((27, .aload_n 0, 1, 0, 0, 0, 0), 5, 0), ((28, .sipush 3000, 3, 3000, 0, 0, 0), 14, 0), ((31, .newarray .byte, 2, 1, 0, 0, 43), 58, 0)],
  [((33, .putfield 21, 3, 14, 8, 20, 619), 51, 0), ((36, .aload_n 0, 1, 0, 0, 0, 0), 5, 0), ((37, .aload_n 1, 1, 0, 0, 0, 0), 5, 1), ((38, .putfield 25, 3, 14, 0, 20, 32), 51, 0), ((41, .aload_n 0, 1, 0, 0, 0, 0), 5, 0), ((42, .aload_n 2, 1, 0, 0, 0, 0), 5, 2), ((43, .putfield 29, 3, 14, 1, 20, 620), 51, 0), ((46, .aload_n 0, 1, 0, 0, 0, 0), 5, 0), ((47, .aload_n 3, 1, 0, 0, 0, 0), 5, 3)],
  [((48, .putfield 33, 3, 14, 2, 20, 621), 51, 0), ((51, .aload_n 0, 1, 0, 0, 0, 0), 5, 0), ((52, .aload 4, 2, 0, 0, 0, 0), 4, 4), ((54, .putfield 37, 3, 14, 3, 20, 622), 51, 0), ((57, .aload_n 0, 1, 0, 0, 0, 0), 5, 0), ((58, .ldc 41, 2, 92233720368547758085, 0, 0, 0), 59, 0), ((60, .iconst 0, 1, 0, 0, 0, 0), 12, 0), ((61, .invokevirtual 43, 3, 90, 3, 14, 623), 56, 0)],
  [((64, .istore 5, 2, 0, 0, 0, 0), 6, 5), ((66, .aload_n 0, 1, 0, 0, 0, 0), 5, 0), ((67, .ldc 47, 2, 92233720368547758086, 0, 0, 0), 59, 0), ((69, .iload 5, 2, 0, 0, 0, 0), 0, 5), ((71, .invokevirtual 43, 3, 90, 3, 14, 623), 56, 0), ((74, .istore 5, 2, 0, 0, 0, 0), 6, 5), ((76, .aload_n 0, 1, 0, 0, 0, 0), 5, 0), ((77, .ldc 49, 2, 92233720368547758087, 0, 0, 0), 59, 0), ((79, .iload 5, 2, 0, 0, 0, 0), 0, 5)],
  [((81, .invokevirtual 43, 3, 90, 3, 14, 623), 56, 0), ((84, .istore 5, 2, 0, 0, 0, 0), 6, 5), ((86, .aload_n 0, 1, 0, 0, 0, 0), 5, 0), ((87, .ldc 51, 2, 92233720368547758088, 0, 0, 0), 59, 0), ((89, .iload 5, 2, 0, 0, 0, 0), 0, 5), ((91, .invokevirtual 43, 3, 90, 3, 14, 623), 56, 0), ((94, .pop, 1, 0, 0, 0, 0), 58, 0), ((95, .aload_n 0, 1, 0, 0, 0, 0), 5, 0)],
  [((96, .getfield 18, 3, 14, 6, 20, 618), 50, 0), ((99, .iconst 1, 1, 1, 0, 0, 0), 12, 0), ((100, .aload_n 0, 1, 0, 0, 0, 0), 5, 0), ((101, .ldc 53, 2, 92233720368547758089, 0, 0, 0), 59, 0), ((103, .invokevirtual 55, 3, 15, 2, 14, 624), 56, 0), ((106, .iastore, 1, 0, 0, 0, 0), 53, 0), ((107, .aload_n 0, 1, 0, 0, 0, 0), 5, 0), ((108, .getfield 18, 3, 14, 6, 20, 618), 50, 0), ((111, .iconst 2, 1, 2, 0, 0, 0), 12, 0)],
  [((112, .aload_n 0, 1, 0, 0, 0, 0), 5, 0), ((113, .ldc 59, 2, 92233720368547758090, 0, 0, 0), 59, 0), ((115, .invokevirtual 55, 3, 15, 2, 14, 624), 56, 0), ((118, .iastore, 1, 0, 0, 0, 0), 53, 0), ((119, .aload_n 0, 1, 0, 0, 0, 0), 5, 0), ((120, .getfield 18, 3, 14, 6, 20, 618), 50, 0), ((123, .iconst 3, 1, 3, 0, 0, 0), 12, 0), ((124, .aload_n 0, 1, 0, 0, 0, 0), 5, 0), ((125, .ldc 61, 2, 92233720368547758091, 0, 0, 0), 59, 0), ((127, .invokevirtual 55, 3, 15, 2, 14, 624), 56, 0)],
  [((130, .iastore, 1, 0, 0, 0, 0), 53, 0), ((131, .aload_n 0, 1, 0, 0, 0, 0), 5, 0), ((132, .aload_n 0, 1, 0, 0, 0, 0), 5, 0), ((133, .ldc 63, 2, 92233720368547758092, 0, 0, 0), 59, 0), ((135, .invokevirtual 55, 3, 15, 2, 14, 624), 56, 0), ((138, .putfield 65, 3, 14, 7, 0, 625), 51, 0), ((141, .return_, 1, 0, 0, 0, 0), 1000, 0)]])
def al_mX1_keepNames : ev_MeK := (al_yX1_keepNames, prog_3_method_2_code, 7, (some .int), [[((0, .iload_n 2, 1, 0, 0, 0, 0), 1, 2), ((1, .istore_n 3, 1, 0, 0, 0, 0), 7, 3), ((2, .iconst 0, 1, 0, 0, 0, 0), 12, 0), ((3, .istore 4, 2, 0, 0, 0, 0), 6, 4), ((5, .iconst 0, 1, 0, 0, 0, 0), 12, 0), ((6, .istore 5, 2, 0, 0, 0, 0), 6, 5), ((8, .iload 5, 2, 0, 0, 0, 0), 0, 5), ((10, .aload_n 1, 1, 0, 0, 0, 0), 59, 1), ((11, .invokevirtual 69, 3, 6, 1, 1, 626), 59, 0), ((14, .if_icmp .ge 81, 3, 95, 0, 0, 0), 47, 0)],
  [((17, .iload_n 3, 1, 0, 0, 0, 0), 1, 3), ((18, .bipush 32, 2, 32, 0, 0, 0), 13, 0), ((20, .if_icmp .ge 75, 3, 95, 0, 0, 0), 47, 0), ((23, .aload_n 1, 1, 0, 0, 0, 0), 59, 1), ((24, .iload 5, 2, 0, 0, 0, 0), 0, 5), ((26, .invokevirtual 75, 3, 1, 2, 1, 627), 59, 0), ((29, .bipush 32, 2, 32, 0, 0, 0), 13, 0), ((31, .if_icmp .ne 58, 3, 89, 0, 0, 0), 45, 0)],
  [((34, .aload_n 1, 1, 0, 0, 0, 0), 59, 1), ((35, .iload 4, 2, 0, 0, 0, 0), 0, 4), ((37, .iload 5, 2, 0, 0, 0, 0), 0, 5), ((39, .invokevirtual 79, 3, 96, 3, 1, 628), 59, 0), ((42, .astore 6, 2, 0, 0, 0, 0), 10, 6), ((44, .iinc 3 1, 3, 1, 0, 0, 0), 36, 3), ((47, .aload_n 0, 1, 0, 0, 0, 0), 59, 0)],
  [((48, .getfield 11, 3, 14, 4, 20, 616), 50, 0), ((51, .iload_n 3, 1, 0, 0, 0, 0), 1, 3), ((52, .aload_n 0, 1, 0, 0, 0, 0), 59, 0), ((53, .aload 6, 2, 0, 0, 0, 0), 59, 6), ((55, .invokevirtual 83, 3, 14, 2, 14, 629), 56, 0), ((58, .iastore, 1, 0, 0, 0, 0), 53, 0), ((59, .aload_n 0, 1, 0, 0, 0, 0), 59, 0), ((60, .getfield 15, 3, 14, 5, 20, 617), 50, 0), ((63, .iload_n 3, 1, 0, 0, 0, 0), 1, 3)],
  [((64, .aload_n 0, 1, 0, 0, 0, 0), 59, 0), ((65, .aload 6, 2, 0, 0, 0, 0), 59, 6), ((67, .aload 6, 2, 0, 0, 0, 0), 59, 6), ((69, .bipush 46, 2, 46, 0, 0, 0), 13, 0), ((71, .invokevirtual 86, 3, 93, 2, 1, 630), 59, 0), ((74, .iconst 1, 1, 1, 0, 0, 0), 12, 0), ((75, .iadd, 1, 0, 0, 0, 0), 16, 0), ((76, .invokevirtual 90, 3, 95, 2, 1, 631), 59, 0), ((79, .invokevirtual 55, 3, 15, 2, 14, 624), 56, 0)],
  [((82, .iastore, 1, 0, 0, 0, 0), 53, 0), ((83, .iload 5, 2, 0, 0, 0, 0), 0, 5), ((85, .iconst 1, 1, 1, 0, 0, 0), 12, 0), ((86, .iadd, 1, 0, 0, 0, 0), 16, 0), ((87, .istore 4, 2, 0, 0, 0, 0), 6, 4), ((89, .iinc 5 1, 3, 1, 0, 0, 0), 36, 5), ((92, .goto (-84), 3, 8, 0, 0, 0), 37, 0), ((95, .iload_n 3, 1, 0, 0, 0, 0), 1, 3)],
  [((96, .ireturn, 1, 0, 0, 0, 0), 1000, 0)]])
def al_mX1_furnish : ev_MeK := (al_yX1_furnish, prog_3_method_5_code, 3, none, [[((0, .aload_n 0, 1, 0, 0, 0, 0), 5, 0), ((1, .lconst 0, 1, 0, 0, 0, 0), 15, 0), ((2, .putfield 108, 3, 14, 9, 10, 632), 51, 0), ((5, .iconst 1, 1, 1, 0, 0, 0), 12, 0), ((6, .istore_n 1, 1, 0, 0, 0, 0), 7, 1), ((7, .iload_n 1, 1, 0, 0, 0, 0), 1, 1), ((8, .iconst 3, 1, 3, 0, 0, 0), 12, 0), ((9, .if_icmp .gt 14, 3, 23, 0, 0, 0), 48, 0), ((12, .aload_n 0, 1, 0, 0, 0, 0), 5, 0), ((13, .invokevirtual 112, 3, 92, 1, 14, 633), 56, 0)],
  [((16, .pop, 1, 0, 0, 0, 0), 58, 0), ((17, .iinc 1 1, 3, 1, 0, 0, 0), 36, 1), ((20, .goto (-13), 3, 7, 0, 0, 0), 37, 0), ((23, .iconst 1, 1, 1, 0, 0, 0), 12, 0), ((24, .istore_n 1, 1, 0, 0, 0, 0), 7, 1), ((25, .iload_n 1, 1, 0, 0, 0, 0), 1, 1), ((26, .bipush 32, 2, 32, 0, 0, 0), 13, 0), ((28, .if_icmp .ge 62, 3, 90, 0, 0, 0), 47, 0), ((31, .iload_n 1, 1, 0, 0, 0, 0), 1, 1)],
  [((32, .bipush 17, 2, 17, 0, 0, 0), 13, 0), ((34, .if_icmp .gt 7, 3, 41, 0, 0, 0), 48, 0), ((37, .iconst 0, 1, 0, 0, 0, 0), 12, 0), ((38, .goto 24, 3, 62, 0, 0, 0), 37, 0), ((41, .iload_n 1, 1, 0, 0, 0, 0), 1, 1), ((42, .bipush 22, 2, 22, 0, 0, 0), 13, 0), ((44, .if_icmp .gt 7, 3, 51, 0, 0, 0), 48, 0), ((47, .iconst 1, 1, 1, 0, 0, 0), 12, 0)],
  [((48, .goto 14, 3, 62, 0, 0, 0), 37, 0), ((51, .iload_n 1, 1, 0, 0, 0, 0), 1, 1), ((52, .bipush 26, 2, 26, 0, 0, 0), 13, 0), ((54, .if_icmp .gt 7, 3, 61, 0, 0, 0), 48, 0), ((57, .iconst 2, 1, 2, 0, 0, 0), 12, 0), ((58, .goto 4, 3, 62, 0, 0, 0), 37, 0), ((61, .iconst 3, 1, 3, 0, 0, 0), 12, 0), ((62, .istore_n 2, 1, 0, 0, 0, 0), 7, 2), ((63, .aload_n 0, 1, 0, 0, 0, 0), 5, 0)],
  [((64, .getfield 29, 3, 14, 1, 20, 620), 50, 0), ((67, .iload_n 2, 1, 0, 0, 0, 0), 1, 2), ((68, .iconst 3, 1, 3, 0, 0, 0), 12, 0), ((69, .aload_n 0, 1, 0, 0, 0, 0), 5, 0), ((70, .getfield 15, 3, 14, 5, 20, 617), 50, 0), ((73, .iload_n 1, 1, 0, 0, 0, 0), 1, 1), ((74, .iaload, 1, 0, 0, 0, 0), 52, 0), ((75, .i2l, 1, 0, 0, 0, 0), 26, 0), ((76, .iconst 5, 1, 5, 0, 0, 0), 12, 0), ((77, .iload_n 1, 1, 0, 0, 0, 0), 1, 1), ((78, .ineg, 1, 0, 0, 0, 0), 23, 0), ((79, .i2l, 1, 0, 0, 0, 0), 26, 0)],
  [((80, .invokevirtual 115, 3, 63, 6, 6, 634), 56, 0), ((83, .pop, 1, 0, 0, 0, 0), 58, 0), ((84, .iinc 1 1, 3, 1, 0, 0, 0), 36, 1), ((87, .goto (-62), 3, 25, 0, 0, 0), 37, 0), ((90, .iconst 1, 1, 1, 0, 0, 0), 12, 0), ((91, .istore_n 1, 1, 0, 0, 0, 0), 7, 1), ((92, .iload_n 1, 1, 0, 0, 0, 0), 1, 1), ((93, .iconst 3, 1, 3, 0, 0, 0), 12, 0), ((94, .if_icmp .gt 29, 3, 123, 0, 0, 0), 48, 0)],
  [((97, .aload_n 0, 1, 0, 0, 0, 0), 5, 0), ((98, .getfield 29, 3, 14, 1, 20, 620), 50, 0), ((101, .iconst 0, 1, 0, 0, 0, 0), 12, 0), ((102, .iconst 3, 1, 3, 0, 0, 0), 12, 0), ((103, .aload_n 0, 1, 0, 0, 0, 0), 5, 0), ((104, .getfield 18, 3, 14, 6, 20, 618), 50, 0), ((107, .iload_n 1, 1, 0, 0, 0, 0), 1, 1), ((108, .iaload, 1, 0, 0, 0, 0), 52, 0), ((109, .i2l, 1, 0, 0, 0, 0), 26, 0), ((110, .iconst 4, 1, 4, 0, 0, 0), 12, 0), ((111, .iload_n 1, 1, 0, 0, 0, 0), 1, 1)],
  [((112, .i2l, 1, 0, 0, 0, 0), 26, 0), ((113, .invokevirtual 115, 3, 63, 6, 6, 634), 56, 0), ((116, .pop, 1, 0, 0, 0, 0), 58, 0), ((117, .iinc 1 1, 3, 1, 0, 0, 0), 36, 1), ((120, .goto (-28), 3, 92, 0, 0, 0), 37, 0), ((123, .return_, 1, 0, 0, 0, 0), 1000, 0)]])
def al_mX1_newTable : ev_MeK := (al_yX1_newTable, prog_3_method_6_code, 2, (some .int), [[((0, .aload_n 0, 1, 0, 0, 0, 0), 5, 0), ((1, .getfield 33, 3, 14, 2, 20, 621), 50, 0), ((4, .iconst 4, 1, 4, 0, 0, 0), 12, 0), ((5, .invokevirtual 121, 3, 67, 2, 7, 635), 56, 0), ((8, .istore_n 1, 1, 0, 0, 0, 0), 7, 1), ((9, .iload_n 1, 1, 0, 0, 0, 0), 1, 1), ((10, .ifCond .eq 11, 3, 21, 0, 0, 0), 38, 0), ((13, .aload_n 0, 1, 0, 0, 0, 0), 5, 0), ((14, .getfield 29, 3, 14, 1, 20, 620), 50, 0)],
  [((17, .iload_n 1, 1, 0, 0, 0, 0), 1, 1), ((18, .invokevirtual 126, 3, 61, 2, 6, 636), 56, 0), ((21, .iload_n 1, 1, 0, 0, 0, 0), 1, 1), ((22, .ireturn, 1, 0, 0, 0, 0), 1000, 0)]])
def al_mJ0_indexOf_0f7a4 : ev_MeK := (al_yJ0_indexOf_0f7a4, prog_28_method_79_code, 2, (some .int), [[((0, .aload_n 0, 1, 0, 0, 0, 0), 59, 0), ((1, .iload_n 1, 1, 0, 0, 0, 0), 1, 1), ((2, .iconst 0, 1, 0, 0, 0, 0), 12, 0), ((3, .invokevirtual 633, 3, 94, 3, 1, 637), 59, 0), ((6, .ireturn, 1, 0, 0, 0, 0), 1000, 0)]])
def al_mJ0_indexOf_7cf53 : ev_MeK := (al_yJ0_indexOf_7cf53, prog_28_method_80_code, 3, (some .int), [[((0, .aload_n 0, 1, 0, 0, 0, 0), 59, 0), ((1, .invokevirtual 492, 3, 2, 1, 1, 2), 59, 0), ((4, .ifCond .eq 19, 3, 23, 0, 0, 0), 38, 0), ((7, .aload_n 0, 1, 0, 0, 0, 0), 59, 0), ((8, .getfield 9, 3, 1, 0, 20, 3), 59, 0), ((11, .iload_n 1, 1, 0, 0, 0, 0), 1, 1), ((12, .iload_n 2, 1, 0, 0, 0, 0), 1, 2), ((13, .aload_n 0, 1, 0, 0, 0, 0), 59, 0), ((14, .invokevirtual 505, 3, 6, 1, 1, 638), 59, 0)],
  [((17, .invokestatic 637, 3, 100, 4, 0, 639), 57, 0), ((20, .goto 16, 3, 36, 0, 0, 0), 37, 0), ((23, .aload_n 0, 1, 0, 0, 0, 0), 59, 0), ((24, .getfield 9, 3, 1, 0, 20, 3), 59, 0), ((27, .iload_n 1, 1, 0, 0, 0, 0), 1, 1), ((28, .iload_n 2, 1, 0, 0, 0, 0), 1, 2), ((29, .aload_n 0, 1, 0, 0, 0, 0), 59, 0), ((30, .invokevirtual 505, 3, 6, 1, 1, 638), 59, 0)],
  [((36, .ireturn, 1, 0, 0, 0, 0), 1000, 0)]])
def al_mJ0_substring_b52d3 : ev_MeK := (al_yJ0_substring_b52d3, prog_28_method_91_code, 2, (some (.object "java/lang/String")), [[((0, .aload_n 0, 1, 0, 0, 0, 0), 59, 0), ((1, .iload_n 1, 1, 0, 0, 0, 0), 1, 1), ((2, .aload_n 0, 1, 0, 0, 0, 0), 59, 0), ((3, .invokevirtual 505, 3, 6, 1, 1, 638), 59, 0), ((6, .invokevirtual 681, 3, 96, 3, 1, 640), 59, 0), ((9, .areturn, 1, 0, 0, 0, 0), 1000, 0)]])
def al_mJ0_substring_37a41 : ev_MeK := (al_yJ0_substring_37a41, prog_28_method_92_code, 5, (some (.object "java/lang/String")), [[((0, .aload_n 0, 1, 0, 0, 0, 0), 59, 0), ((1, .invokevirtual 505, 3, 6, 1, 1, 638), 59, 0), ((4, .istore_n 3, 1, 0, 0, 0, 0), 7, 3), ((5, .iload_n 1, 1, 0, 0, 0, 0), 1, 1), ((6, .iload_n 2, 1, 0, 0, 0, 0), 1, 2), ((7, .iload_n 3, 1, 0, 0, 0, 0), 1, 3), ((8, .invokestatic 521, 3, 98, 3, 0, 641), 57, 0), ((11, .iload_n 1, 1, 0, 0, 0, 0), 1, 1), ((12, .ifCond .ne 10, 3, 22, 0, 0, 0), 39, 0), ((15, .iload_n 2, 1, 0, 0, 0, 0), 1, 2)],
  [((16, .iload_n 3, 1, 0, 0, 0, 0), 1, 3), ((17, .if_icmp .ne 5, 3, 22, 0, 0, 0), 45, 0), ((20, .aload_n 0, 1, 0, 0, 0, 0), 59, 0), ((21, .areturn, 1, 0, 0, 0, 0), 1000, 0), ((22, .iload_n 2, 1, 0, 0, 0, 0), 1, 2), ((23, .iload_n 1, 1, 0, 0, 0, 0), 1, 1), ((24, .isub, 1, 0, 0, 0, 0), 17, 0), ((25, .istore 4, 2, 0, 0, 0, 0), 6, 4), ((27, .aload_n 0, 1, 0, 0, 0, 0), 59, 0), ((28, .invokevirtual 492, 3, 2, 1, 1, 2), 59, 0), ((31, .ifCond .eq 16, 3, 47, 0, 0, 0), 38, 0)],
  [((34, .aload_n 0, 1, 0, 0, 0, 0), 59, 0), ((35, .getfield 9, 3, 1, 0, 20, 3), 59, 0), ((38, .iload_n 1, 1, 0, 0, 0, 0), 1, 1), ((39, .iload 4, 2, 0, 0, 0, 0), 0, 4), ((41, .invokestatic 685, 3, 102, 3, 0, 642), 57, 0), ((44, .goto 13, 3, 57, 0, 0, 0), 37, 0), ((47, .aload_n 0, 1, 0, 0, 0, 0), 59, 0)],
  [((48, .getfield 9, 3, 1, 0, 20, 3), 59, 0), ((51, .iload_n 1, 1, 0, 0, 0, 0), 1, 1), ((52, .iload 4, 2, 0, 0, 0, 0), 0, 4), ((57, .areturn, 1, 0, 0, 0, 0), 1000, 0)]])
def al_mJ0_init_031fb : ev_MeK := (al_yJ0_init_031fb, prog_28_method_151_code, 3, none, [[((0, .aload_n 0, 1, 0, 0, 0, 0), 59, 0), ((1, .invokespecial 1, 3, 0, 0, 0, 643), 58, 0), ((4, .aload_n 0, 1, 0, 0, 0, 0), 59, 0), ((5, .aload_n 1, 1, 0, 0, 0, 0), 59, 1), ((6, .putfield 9, 3, 1, 0, 20, 3), 51, 0), ((9, .aload_n 0, 1, 0, 0, 0, 0), 59, 0), ((10, .iload_n 2, 1, 0, 0, 0, 0), 1, 2), ((11, .putfield 15, 3, 1, 1, 1, 6), 51, 0), ((14, .return_, 1, 0, 0, 0, 0), 1000, 0)]])
def al_mJ0_checkBoundsBeginEnd_23922 : ev_MeK := (al_yJ0_checkBoundsBeginEnd_23922, prog_28_method_158_code, 3, none, [[((0, .iload_n 0, 1, 0, 0, 0, 0), 1, 0), ((1, .iload_n 1, 1, 0, 0, 0, 0), 1, 1), ((2, .iload_n 2, 1, 0, 0, 0, 0), 1, 2), ((3, .getstatic 1053, 3, 129127208515966861312, 0, 0, 8), 59, 0), ((6, .invokestatic 1062, 3, 103, 4, 0, 646), 57, 0), ((9, .pop, 1, 0, 0, 0, 0), 58, 0), ((10, .return_, 1, 0, 0, 0, 0), 1000, 0)]])
def al_mJ1_canEncode_9a6ad : ev_MeK := (al_yJ1_canEncode_9a6ad, prog_30_method_4_code, 1, (some .boolean), [[((0, .iload_n 0, 1, 0, 0, 0, 0), 1, 0), ((1, .ifCond .lt 14, 3, 15, 0, 0, 0), 40, 0), ((4, .iload_n 0, 1, 0, 0, 0, 0), 1, 0), ((5, .sipush 255, 3, 255, 0, 0, 0), 14, 0), ((8, .if_icmp .gt 7, 3, 15, 0, 0, 0), 48, 0), ((11, .iconst 1, 1, 1, 0, 0, 0), 12, 0), ((12, .goto 4, 3, 16, 0, 0, 0), 37, 0), ((15, .iconst 0, 1, 0, 0, 0, 0), 12, 0)],
  [((16, .ireturn, 1, 0, 0, 0, 0), 1000, 0)]])
def al_mJ1_indexOf_4cfef : ev_MeK := (al_yJ1_indexOf_4cfef, prog_30_method_22_code, 4, (some .int), [[((0, .iload_n 1, 1, 0, 0, 0, 0), 1, 1), ((1, .invokestatic 88, 3, 99, 1, 0, 647), 57, 0), ((4, .ifCond .ne 5, 3, 9, 0, 0, 0), 39, 0), ((7, .iconst (-1), 1, 4294967295, 0, 0, 0), 12, 0), ((8, .ireturn, 1, 0, 0, 0, 0), 1000, 0), ((9, .iload_n 2, 1, 0, 0, 0, 0), 1, 2), ((10, .iconst 0, 1, 0, 0, 0, 0), 12, 0), ((11, .invokestatic 92, 3, 997, 0, 0, 648), 59, 0), ((14, .istore_n 2, 1, 0, 0, 0, 0), 7, 2), ((15, .iload_n 3, 1, 0, 0, 0, 0), 1, 3)],
  [((16, .aload_n 0, 1, 0, 0, 0, 0), 59, 0), ((17, .arraylength, 1, 0, 0, 0, 0), 59, 0), ((18, .invokestatic 38, 3, 998, 0, 0, 652), 59, 0), ((21, .istore_n 3, 1, 0, 0, 0, 0), 7, 3), ((22, .iload_n 2, 1, 0, 0, 0, 0), 1, 2), ((23, .iload_n 3, 1, 0, 0, 0, 0), 1, 3), ((24, .if_icmp .lt 5, 3, 29, 0, 0, 0), 46, 0), ((27, .iconst (-1), 1, 4294967295, 0, 0, 0), 12, 0), ((28, .ireturn, 1, 0, 0, 0, 0), 1000, 0), ((29, .aload_n 0, 1, 0, 0, 0, 0), 59, 0), ((30, .iload_n 1, 1, 0, 0, 0, 0), 1, 1), ((31, .iload_n 2, 1, 0, 0, 0, 0), 1, 2)],
  [((32, .iload_n 3, 1, 0, 0, 0, 0), 1, 3), ((33, .invokestatic 95, 3, 101, 4, 0, 656), 57, 0), ((36, .ireturn, 1, 0, 0, 0, 0), 1000, 0)]])
def al_mJ1_indexOfChar_4cfef : ev_MeK := (al_yJ1_indexOfChar_4cfef, prog_30_method_23_code, 6, (some .int), [[((0, .iload_n 1, 1, 0, 0, 0, 0), 1, 1), ((1, .i2b, 1, 0, 0, 0, 0), 24, 0), ((2, .istore 4, 2, 0, 0, 0, 0), 6, 4), ((4, .iload_n 2, 1, 0, 0, 0, 0), 1, 2), ((5, .istore 5, 2, 0, 0, 0, 0), 6, 5), ((7, .iload 5, 2, 0, 0, 0, 0), 0, 5), ((9, .iload_n 3, 1, 0, 0, 0, 0), 1, 3), ((10, .if_icmp .ge 21, 3, 31, 0, 0, 0), 47, 0), ((13, .aload_n 0, 1, 0, 0, 0, 0), 59, 0), ((14, .iload 5, 2, 0, 0, 0, 0), 0, 5)],
  [((16, .baload, 1, 0, 0, 0, 0), 59, 0), ((17, .iload 4, 2, 0, 0, 0, 0), 0, 4), ((19, .if_icmp .ne 6, 3, 25, 0, 0, 0), 45, 0), ((22, .iload 5, 2, 0, 0, 0, 0), 0, 5), ((24, .ireturn, 1, 0, 0, 0, 0), 1000, 0), ((25, .iinc 5 1, 3, 1, 0, 0, 0), 36, 5), ((28, .goto (-21), 3, 7, 0, 0, 0), 37, 0), ((31, .iconst (-1), 1, 4294967295, 0, 0, 0), 12, 0)],
  [((32, .ireturn, 1, 0, 0, 0, 0), 1000, 0)]])
def al_mJ1_newString_b4f7a : ev_MeK := (al_yJ1_newString_b4f7a, prog_30_method_47_code, 3, (some (.object "java/lang/String")), [[((0, .iload_n 2, 1, 0, 0, 0, 0), 1, 2), ((1, .ifCond .ne 6, 3, 7, 0, 0, 0), 39, 0), ((6, .areturn, 1, 0, 0, 0, 0), 1000, 0), ((7, .new 1, 3, 2, 4, 1, 657), 59, 0), ((10, .dup, 1, 0, 0, 0, 0), 35, 0), ((11, .aload_n 0, 1, 0, 0, 0, 0), 59, 0), ((12, .iload_n 1, 1, 0, 0, 0, 0), 1, 1), ((13, .iload_n 1, 1, 0, 0, 0, 0), 1, 1), ((14, .iload_n 2, 1, 0, 0, 0, 0), 1, 2), ((15, .iadd, 1, 0, 0, 0, 0), 16, 0)],
  [((16, .invokestatic 232, 3, 107, 3, 0, 660), 57, 0), ((19, .iconst 0, 1, 0, 0, 0, 0), 12, 0), ((20, .invokespecial 112, 3, 97, 3, 0, 661), 58, 0), ((23, .areturn, 1, 0, 0, 0, 0), 1000, 0)]])
def al_mJ3_checkFromToIndex_8c36e : ev_MeK := (al_yJ3_checkFromToIndex_8c36e, prog_36_method_12_code, 4, (some .int), [[((0, .iload_n 0, 1, 0, 0, 0, 0), 1, 0), ((1, .ifCond .lt 13, 3, 14, 0, 0, 0), 40, 0), ((4, .iload_n 0, 1, 0, 0, 0, 0), 1, 0), ((5, .iload_n 1, 1, 0, 0, 0, 0), 1, 1), ((6, .if_icmp .gt 8, 3, 14, 0, 0, 0), 48, 0), ((9, .iload_n 1, 1, 0, 0, 0, 0), 1, 1), ((10, .iload_n 2, 1, 0, 0, 0, 0), 1, 2), ((11, .if_icmp .le 11, 3, 22, 0, 0, 0), 49, 0), ((14, .aload_n 3, 1, 0, 0, 0, 0), 59, 3), ((15, .iload_n 0, 1, 0, 0, 0, 0), 1, 0)],
  [((16, .iload_n 1, 1, 0, 0, 0, 0), 1, 1), ((17, .iload_n 2, 1, 0, 0, 0, 0), 1, 2), ((22, .iload_n 0, 1, 0, 0, 0, 0), 1, 0), ((23, .ireturn, 1, 0, 0, 0, 0), 1000, 0)]])
def al_mJ7_fill_53178 : ev_MeK := (al_yJ7_fill_53178, prog_34_method_103_code, 4, none, [[((0, .iconst 0, 1, 0, 0, 0, 0), 12, 0), ((1, .istore_n 2, 1, 0, 0, 0, 0), 7, 2), ((2, .aload_n 0, 1, 0, 0, 0, 0), 59, 0), ((3, .arraylength, 1, 0, 0, 0, 0), 59, 0), ((4, .istore_n 3, 1, 0, 0, 0, 0), 7, 3), ((5, .iload_n 2, 1, 0, 0, 0, 0), 1, 2), ((6, .iload_n 3, 1, 0, 0, 0, 0), 1, 3), ((7, .if_icmp .ge 13, 3, 20, 0, 0, 0), 47, 0), ((10, .aload_n 0, 1, 0, 0, 0, 0), 59, 0), ((11, .iload_n 2, 1, 0, 0, 0, 0), 1, 2), ((12, .iload_n 1, 1, 0, 0, 0, 0), 1, 1), ((13, .iastore, 1, 0, 0, 0, 0), 53, 0), ((14, .iinc 2 1, 3, 1, 0, 0, 0), 36, 2)],
  [((17, .goto (-12), 3, 5, 0, 0, 0), 37, 0), ((20, .return_, 1, 0, 0, 0, 0), 1000, 0)]])
def al_mJ7_fill_031fb : ev_MeK := (al_yJ7_fill_031fb, prog_34_method_109_code, 4, none, [[((0, .iconst 0, 1, 0, 0, 0, 0), 12, 0), ((1, .istore_n 2, 1, 0, 0, 0, 0), 7, 2), ((2, .aload_n 0, 1, 0, 0, 0, 0), 59, 0), ((3, .arraylength, 1, 0, 0, 0, 0), 59, 0), ((4, .istore_n 3, 1, 0, 0, 0, 0), 7, 3), ((5, .iload_n 2, 1, 0, 0, 0, 0), 1, 2), ((6, .iload_n 3, 1, 0, 0, 0, 0), 1, 3), ((7, .if_icmp .ge 13, 3, 20, 0, 0, 0), 47, 0), ((10, .aload_n 0, 1, 0, 0, 0, 0), 59, 0), ((11, .iload_n 2, 1, 0, 0, 0, 0), 1, 2), ((12, .iload_n 1, 1, 0, 0, 0, 0), 1, 1), ((13, .bastore, 1, 0, 0, 0, 0), 55, 0), ((14, .iinc 2 1, 3, 1, 0, 0, 0), 36, 2)],
  [((17, .goto (-12), 3, 5, 0, 0, 0), 37, 0), ((20, .return_, 1, 0, 0, 0, 0), 1000, 0)]])
def al_mJ7_checkLength_df160 : ev_MeK := (al_yJ7_checkLength_df160, prog_34_method_131_code, 2, none, [[((0, .iload_n 1, 1, 0, 0, 0, 0), 1, 1), ((1, .iload_n 0, 1, 0, 0, 0, 0), 1, 0), ((2, .if_icmp .ge 35, 3, 37, 0, 0, 0), 47, 0), ((8, .dup, 1, 0, 0, 0, 0), 35, 0), ((12, .dup, 1, 0, 0, 0, 0), 35, 0)],
  [((16, .iload_n 0, 1, 0, 0, 0, 0), 1, 0), ((26, .iload_n 1, 1, 0, 0, 0, 0), 1, 1)],
  [((37, .return_, 1, 0, 0, 0, 0), 1000, 0)]])
def al_mJ7_copyOfRange_39247 : ev_MeK := (al_yJ7_copyOfRange_39247, prog_34_method_132_code, 3, (some (.array .byte)), [[((0, .iload_n 1, 1, 0, 0, 0, 0), 1, 1), ((1, .ifCond .ne 9, 3, 10, 0, 0, 0), 39, 0), ((4, .iload_n 2, 1, 0, 0, 0, 0), 1, 2), ((5, .aload_n 0, 1, 0, 0, 0, 0), 59, 0), ((6, .arraylength, 1, 0, 0, 0, 0), 59, 0), ((7, .if_icmp .eq 10, 3, 17, 0, 0, 0), 44, 0), ((10, .aload_n 0, 1, 0, 0, 0, 0), 59, 0), ((11, .iload_n 1, 1, 0, 0, 0, 0), 1, 1), ((12, .iload_n 2, 1, 0, 0, 0, 0), 1, 2), ((13, .invokestatic 339, 3, 108, 3, 0, 662), 57, 0)],
  [((16, .areturn, 1, 0, 0, 0, 0), 1000, 0), ((17, .aload_n 0, 1, 0, 0, 0, 0), 59, 0), ((24, .areturn, 1, 0, 0, 0, 0), 1000, 0)]])
def al_mJ7_copyOfRangeByte_39247 : ev_MeK := (al_yJ7_copyOfRangeByte_39247, prog_34_method_133_code, 5, (some (.array .byte)), [[((0, .iload_n 1, 1, 0, 0, 0, 0), 1, 1), ((1, .iload_n 2, 1, 0, 0, 0, 0), 1, 2), ((2, .invokestatic 343, 3, 106, 2, 0, 663), 57, 0), ((5, .iload_n 2, 1, 0, 0, 0, 0), 1, 2), ((6, .iload_n 1, 1, 0, 0, 0, 0), 1, 1), ((7, .isub, 1, 0, 0, 0, 0), 17, 0), ((8, .istore_n 3, 1, 0, 0, 0, 0), 7, 3), ((9, .iload_n 3, 1, 0, 0, 0, 0), 1, 3), ((10, .newarray .byte, 2, 1, 0, 0, 43), 58, 0), ((12, .astore 4, 2, 0, 0, 0, 0), 10, 4), ((14, .aload_n 0, 1, 0, 0, 0, 0), 59, 0), ((15, .iload_n 1, 1, 0, 0, 0, 0), 1, 1)],
  [((16, .aload 4, 2, 0, 0, 0, 0), 59, 4), ((18, .iconst 0, 1, 0, 0, 0, 0), 12, 0), ((19, .aload_n 0, 1, 0, 0, 0, 0), 59, 0), ((20, .arraylength, 1, 0, 0, 0, 0), 59, 0), ((21, .iload_n 1, 1, 0, 0, 0, 0), 1, 1), ((22, .isub, 1, 0, 0, 0, 0), 17, 0), ((23, .iload_n 3, 1, 0, 0, 0, 0), 1, 3), ((24, .invokestatic 304, 3, 998, 0, 0, 664), 59, 0), ((27, .invokestatic 150, 3, 999, 0, 0, 668), 59, 0), ((30, .aload 4, 2, 0, 0, 0, 0), 59, 4)],
  [((32, .areturn, 1, 0, 0, 0, 0), 1000, 0)]])
def al_mX4_refuse : ev_MeK := (al_yX4_refuse, prog_6_method_3_code, 2, none, [[((0, .aload_n 0, 1, 0, 0, 0, 0), 5, 0), ((1, .getfield 67, 3, 10, 4, 0, 534), 50, 0), ((4, .ifCond .eq 4, 3, 8, 0, 0, 0), 38, 0), ((7, .return_, 1, 0, 0, 0, 0), 1000, 0), ((8, .aload_n 0, 1, 0, 0, 0, 0), 5, 0), ((9, .iload_n 1, 1, 0, 0, 0, 0), 1, 1), ((10, .putfield 67, 3, 10, 4, 0, 534), 51, 0), ((13, .iload_n 1, 1, 0, 0, 0, 0), 1, 1), ((14, .iconst 2, 1, 2, 0, 0, 0), 12, 0), ((15, .if_icmp .ne 22, 3, 37, 0, 0, 0), 45, 0)],
  [((18, .aload_n 0, 1, 0, 0, 0, 0), 5, 0), ((19, .getfield 15, 3, 10, 0, 20, 518), 50, 0), ((22, .getfield 103, 3, 9, 4, 0, 544), 50, 0), ((25, .iconst 1, 1, 1, 0, 0, 0), 12, 0), ((26, .if_icmp .ne 11, 3, 37, 0, 0, 0), 45, 0), ((29, .aload_n 0, 1, 0, 0, 0, 0), 5, 0), ((30, .iconst 1, 1, 1, 0, 0, 0), 12, 0), ((31, .putfield 67, 3, 10, 4, 0, 534), 51, 0)],
  [((34, .goto 26, 3, 60, 0, 0, 0), 37, 0), ((37, .iload_n 1, 1, 0, 0, 0, 0), 1, 1), ((38, .iconst 4, 1, 4, 0, 0, 0), 12, 0), ((39, .if_icmp .ne 21, 3, 60, 0, 0, 0), 45, 0), ((42, .aload_n 0, 1, 0, 0, 0, 0), 5, 0), ((43, .getfield 15, 3, 10, 0, 20, 518), 50, 0), ((46, .getfield 112, 3, 9, 7, 0, 547), 50, 0)],
  [((49, .sipush 1500, 3, 1500, 0, 0, 0), 14, 0), ((52, .if_icmp .le 8, 3, 60, 0, 0, 0), 49, 0), ((55, .aload_n 0, 1, 0, 0, 0, 0), 5, 0), ((56, .iconst 3, 1, 3, 0, 0, 0), 12, 0), ((57, .putfield 67, 3, 10, 4, 0, 534), 51, 0), ((60, .aload_n 0, 1, 0, 0, 0, 0), 5, 0), ((61, .aload_n 0, 1, 0, 0, 0, 0), 5, 0), ((62, .getfield 15, 3, 10, 0, 20, 518), 50, 0)],
  [((65, .getfield 115, 3, 9, 5, 0, 672), 50, 0), ((68, .putfield 118, 3, 10, 5, 0, 673), 51, 0), ((71, .aload_n 0, 1, 0, 0, 0, 0), 5, 0), ((72, .aload_n 0, 1, 0, 0, 0, 0), 5, 0), ((73, .getfield 15, 3, 10, 0, 20, 518), 50, 0), ((76, .getfield 121, 3, 9, 6, 0, 674), 50, 0), ((79, .putfield 124, 3, 10, 6, 0, 675), 51, 0)],
  [((82, .aload_n 0, 1, 0, 0, 0, 0), 5, 0), ((83, .getfield 15, 3, 10, 0, 20, 518), 50, 0), ((86, .invokevirtual 127, 3, 184, 1, 9, 676), 56, 0), ((89, .return_, 1, 0, 0, 0, 0), 1000, 0)]])
def al_mX4_expect : ev_MeK := (al_yX4_expect, prog_6_method_5_code, 2, none, [[((0, .aload_n 0, 1, 0, 0, 0, 0), 5, 0), ((1, .getfield 15, 3, 10, 0, 20, 518), 50, 0), ((4, .getfield 103, 3, 9, 4, 0, 544), 50, 0), ((7, .iload_n 1, 1, 0, 0, 0, 0), 1, 1), ((8, .if_icmp .ne 10, 3, 18, 0, 0, 0), 45, 0), ((11, .aload_n 0, 1, 0, 0, 0, 0), 5, 0), ((12, .invokevirtual 93, 3, 77, 1, 10, 541), 56, 0), ((15, .goto 8, 3, 23, 0, 0, 0), 37, 0)],
  [((18, .aload_n 0, 1, 0, 0, 0, 0), 5, 0), ((19, .iconst 2, 1, 2, 0, 0, 0), 12, 0), ((20, .invokevirtual 106, 3, 109, 2, 10, 545), 56, 0), ((23, .return_, 1, 0, 0, 0, 0), 1000, 0)]])
def al_mX4_take : ev_MeK := (al_yX4_take, prog_6_method_6_code, 3, (some .boolean), [[((0, .aload_n 0, 1, 0, 0, 0, 0), 5, 0), ((1, .getfield 15, 3, 10, 0, 20, 518), 50, 0), ((4, .getfield 103, 3, 9, 4, 0, 544), 50, 0), ((7, .iload_n 1, 1, 0, 0, 0, 0), 1, 1), ((8, .if_icmp .ne 7, 3, 15, 0, 0, 0), 45, 0), ((11, .iconst 1, 1, 1, 0, 0, 0), 12, 0), ((12, .goto 4, 3, 16, 0, 0, 0), 37, 0), ((15, .iconst 0, 1, 0, 0, 0, 0), 12, 0)],
  [((16, .istore_n 2, 1, 0, 0, 0, 0), 7, 2), ((17, .iload_n 2, 1, 0, 0, 0, 0), 1, 2), ((18, .ifCond .eq 7, 3, 25, 0, 0, 0), 38, 0), ((21, .aload_n 0, 1, 0, 0, 0, 0), 5, 0), ((22, .invokevirtual 93, 3, 77, 1, 10, 541), 56, 0), ((25, .iload_n 2, 1, 0, 0, 0, 0), 1, 2), ((26, .ireturn, 1, 0, 0, 0, 0), 1000, 0)]])
def al_mX4_push : ev_MeK := (al_yX4_push, prog_6_method_8_code, 5, none, [[((0, .aload_n 0, 1, 0, 0, 0, 0), 5, 0), ((1, .iload_n 1, 1, 0, 0, 0, 0), 1, 1), ((2, .iload_n 2, 1, 0, 0, 0, 0), 1, 2), ((3, .iconst 0, 1, 0, 0, 0, 0), 12, 0), ((4, .iload_n 3, 1, 0, 0, 0, 0), 1, 3), ((5, .invokevirtual 96, 3, 78, 5, 10, 542), 56, 0), ((8, .pop, 1, 0, 0, 0, 0), 58, 0), ((9, .aload_n 0, 1, 0, 0, 0, 0), 5, 0), ((10, .getfield 32, 3, 10, 3, 20, 525), 50, 0), ((13, .iload 4, 2, 0, 0, 0, 0), 0, 4), ((15, .invokevirtual 145, 3, 163, 2, 11, 677), 56, 0)],
  [((18, .return_, 1, 0, 0, 0, 0), 1000, 0)]])
def al_mX4_cut : ev_MeK := (al_yX4_cut, prog_6_method_9_code, 2, none, [[((0, .aload_n 0, 1, 0, 0, 0, 0), 5, 0), ((1, .bipush 27, 2, 27, 0, 0, 0), 13, 0), ((3, .iload_n 1, 1, 0, 0, 0, 0), 1, 1), ((4, .iconst 0, 1, 0, 0, 0, 0), 12, 0), ((5, .iconst 0, 1, 0, 0, 0, 0), 12, 0), ((6, .invokevirtual 96, 3, 78, 5, 10, 542), 56, 0), ((9, .pop, 1, 0, 0, 0, 0), 58, 0), ((10, .aload_n 0, 1, 0, 0, 0, 0), 5, 0), ((11, .getfield 32, 3, 10, 3, 20, 525), 50, 0), ((14, .iload_n 1, 1, 0, 0, 0, 0), 1, 1), ((15, .invokevirtual 148, 3, 162, 2, 11, 678), 56, 0)],
  [((18, .return_, 1, 0, 0, 0, 0), 1000, 0)]])
def al_mX4_startsExpression : ev_MeK := (al_yX4_startsExpression, prog_6_method_11_code, 1, (some .boolean), [[((0, .aload_n 0, 1, 0, 0, 0, 0), 5, 0), ((1, .getfield 15, 3, 10, 0, 20, 518), 50, 0), ((4, .getfield 103, 3, 9, 4, 0, 544), 50, 0), ((7, .lookupswitch 91 #[(2, 89), (3, 89), (4, 89), (16, 89), (18, 89), (22, 89), (28, 89), (51, 89), (53, 89), (65, 89)], 89, 0, 0, 0, 0), 59, 0)],
  [],
  [],
  [],
  [],
  [],
  [((96, .iconst 1, 1, 1, 0, 0, 0), 12, 0), ((97, .ireturn, 1, 0, 0, 0, 0), 1000, 0), ((98, .aload_n 0, 1, 0, 0, 0, 0), 5, 0), ((99, .invokevirtual 151, 3, 146, 1, 10, 679), 56, 0), ((102, .iconst (-1), 1, 4294967295, 0, 0, 0), 12, 0), ((103, .if_icmp .eq 7, 3, 110, 0, 0, 0), 44, 0), ((106, .iconst 1, 1, 1, 0, 0, 0), 12, 0), ((107, .goto 4, 3, 111, 0, 0, 0), 37, 0), ((110, .iconst 0, 1, 0, 0, 0, 0), 12, 0), ((111, .ireturn, 1, 0, 0, 0, 0), 1000, 0)]])
def al_mX4_closedBlock : ev_MeK := (al_yX4_closedBlock, prog_6_method_13_code, 4, none, [[((0, .aload_n 0, 1, 0, 0, 0, 0), 5, 0), ((1, .getfield 32, 3, 10, 3, 20, 525), 50, 0), ((4, .getfield 164, 3, 11, 3, 0, 680), 50, 0), ((7, .istore_n 2, 1, 0, 0, 0, 0), 7, 2), ((8, .aload_n 0, 1, 0, 0, 0, 0), 5, 0), ((9, .getfield 32, 3, 10, 3, 20, 525), 50, 0), ((12, .invokevirtual 109, 3, 84, 1, 11, 546), 56, 0), ((15, .istore_n 3, 1, 0, 0, 0, 0), 7, 3)],
  [((16, .aload_n 0, 1, 0, 0, 0, 0), 5, 0), ((17, .iload_n 1, 1, 0, 0, 0, 0), 1, 1), ((18, .invokevirtual 100, 3, 80, 2, 10, 543), 56, 0), ((21, .aload_n 0, 1, 0, 0, 0, 0), 5, 0), ((22, .getfield 32, 3, 10, 3, 20, 525), 50, 0), ((25, .iload_n 2, 1, 0, 0, 0, 0), 1, 2), ((26, .invokevirtual 167, 3, 168, 2, 11, 681), 56, 0), ((29, .aload_n 0, 1, 0, 0, 0, 0), 5, 0), ((30, .getfield 32, 3, 10, 3, 20, 525), 50, 0)],
  [((33, .invokevirtual 109, 3, 84, 1, 11, 546), 56, 0), ((36, .iload_n 3, 1, 0, 0, 0, 0), 1, 3), ((37, .if_icmp .eq 8, 3, 45, 0, 0, 0), 44, 0), ((40, .aload_n 0, 1, 0, 0, 0, 0), 5, 0), ((41, .iload_n 3, 1, 0, 0, 0, 0), 1, 3), ((42, .invokevirtual 170, 3, 113, 2, 10, 682), 56, 0), ((45, .return_, 1, 0, 0, 0, 0), 1000, 0)]])
def al_mX4_statement : ev_MeK := (al_yX4_statement, prog_6_method_14_code, 2, none, [[((0, .iload_n 1, 1, 0, 0, 0, 0), 1, 1), ((1, .bipush 20, 2, 20, 0, 0, 0), 13, 0), ((3, .if_icmp .le 9, 3, 12, 0, 0, 0), 49, 0), ((6, .aload_n 0, 1, 0, 0, 0, 0), 5, 0), ((7, .iconst 3, 1, 3, 0, 0, 0), 12, 0), ((8, .invokevirtual 106, 3, 109, 2, 10, 545), 56, 0), ((11, .return_, 1, 0, 0, 0, 0), 1000, 0), ((12, .aload_n 0, 1, 0, 0, 0, 0), 5, 0), ((13, .bipush 57, 2, 57, 0, 0, 0), 13, 0), ((15, .invokevirtual 173, 3, 111, 2, 10, 683), 56, 0)],
  [((18, .ifCond .eq 4, 3, 22, 0, 0, 0), 38, 0), ((21, .return_, 1, 0, 0, 0, 0), 1000, 0), ((22, .aload_n 0, 1, 0, 0, 0, 0), 5, 0), ((23, .iconst 0, 1, 0, 0, 0, 0), 12, 0), ((24, .iconst 0, 1, 0, 0, 0, 0), 12, 0), ((25, .iconst 0, 1, 0, 0, 0, 0), 12, 0), ((26, .aload_n 0, 1, 0, 0, 0, 0), 5, 0), ((27, .getfield 15, 3, 10, 0, 20, 518), 50, 0), ((30, .getfield 121, 3, 9, 6, 0, 674), 50, 0)],
  [((33, .invokevirtual 96, 3, 78, 5, 10, 542), 56, 0), ((36, .pop, 1, 0, 0, 0, 0), 58, 0), ((37, .aload_n 0, 1, 0, 0, 0, 0), 5, 0), ((38, .getfield 15, 3, 10, 0, 20, 518), 50, 0), ((41, .getfield 103, 3, 9, 4, 0, 544), 50, 0), ((44, .tableswitch 171 11 30 #[164, 96, 171, 171, 171, 171, 140, 148, 132, 171, 156, 171, 171, 171, 124, 171, 171, 171, 171, 116], 96, 0, 0, 0, 0), 58, 0)],
  [],
  [],
  [],
  [],
  [],
  [((140, .aload_n 0, 1, 0, 0, 0, 0), 5, 0), ((141, .invokevirtual 93, 3, 77, 1, 10, 541), 56, 0)],
  [((144, .aload_n 0, 1, 0, 0, 0, 0), 5, 0), ((145, .iload_n 1, 1, 0, 0, 0, 0), 1, 1), ((146, .iconst 1, 1, 1, 0, 0, 0), 12, 0), ((147, .iadd, 1, 0, 0, 0, 0), 16, 0), ((148, .invokevirtual 177, 3, 115, 2, 10, 684), 56, 0), ((151, .aload_n 0, 1, 0, 0, 0, 0), 5, 0), ((152, .bipush 15, 2, 15, 0, 0, 0), 13, 0), ((154, .invokevirtual 180, 3, 110, 2, 10, 685), 56, 0), ((157, .goto 63, 3, 220, 0, 0, 0), 37, 0)],
  [((160, .aload_n 0, 1, 0, 0, 0, 0), 5, 0), ((161, .iload_n 1, 1, 0, 0, 0, 0), 1, 1), ((162, .invokevirtual 183, 3, 119, 2, 10, 686), 56, 0), ((165, .goto 55, 3, 220, 0, 0, 0), 37, 0), ((168, .aload_n 0, 1, 0, 0, 0, 0), 5, 0), ((169, .iload_n 1, 1, 0, 0, 0, 0), 1, 1), ((170, .invokevirtual 186, 3, 121, 2, 10, 687), 56, 0), ((173, .goto 47, 3, 220, 0, 0, 0), 37, 0)],
  [((176, .aload_n 0, 1, 0, 0, 0, 0), 5, 0), ((177, .iload_n 1, 1, 0, 0, 0, 0), 1, 1), ((178, .invokevirtual 189, 3, 122, 2, 10, 688), 56, 0), ((181, .goto 39, 3, 220, 0, 0, 0), 37, 0), ((184, .aload_n 0, 1, 0, 0, 0, 0), 5, 0), ((185, .iload_n 1, 1, 0, 0, 0, 0), 1, 1), ((186, .invokevirtual 192, 3, 126, 2, 10, 689), 56, 0), ((189, .goto 31, 3, 220, 0, 0, 0), 37, 0)],
  [((192, .aload_n 0, 1, 0, 0, 0, 0), 5, 0), ((193, .iload_n 1, 1, 0, 0, 0, 0), 1, 1), ((194, .invokevirtual 195, 3, 131, 2, 10, 690), 56, 0), ((197, .goto 23, 3, 220, 0, 0, 0), 37, 0), ((200, .aload_n 0, 1, 0, 0, 0, 0), 5, 0), ((201, .iload_n 1, 1, 0, 0, 0, 0), 1, 1), ((202, .invokevirtual 198, 3, 130, 2, 10, 691), 56, 0), ((205, .goto 15, 3, 220, 0, 0, 0), 37, 0)],
  [((208, .aload_n 0, 1, 0, 0, 0, 0), 5, 0), ((209, .invokevirtual 201, 3, 118, 1, 10, 692), 56, 0), ((212, .goto 8, 3, 220, 0, 0, 0), 37, 0), ((215, .aload_n 0, 1, 0, 0, 0, 0), 5, 0), ((216, .iload_n 1, 1, 0, 0, 0, 0), 1, 1), ((217, .invokevirtual 204, 3, 140, 2, 10, 693), 56, 0), ((220, .return_, 1, 0, 0, 0, 0), 1000, 0)]])
def al_mX4_returnStatement : ev_MeK := (al_yX4_returnStatement, prog_6_method_15_code, 4, none, [[((0, .aload_n 0, 1, 0, 0, 0, 0), 5, 0), ((1, .getfield 15, 3, 10, 0, 20, 518), 50, 0), ((4, .getfield 121, 3, 9, 6, 0, 674), 50, 0), ((7, .istore_n 2, 1, 0, 0, 0, 0), 7, 2), ((8, .aload_n 0, 1, 0, 0, 0, 0), 5, 0), ((9, .getfield 32, 3, 10, 3, 20, 525), 50, 0), ((12, .invokevirtual 109, 3, 84, 1, 11, 546), 56, 0), ((15, .istore_n 3, 1, 0, 0, 0, 0), 7, 3)],
  [((16, .aload_n 0, 1, 0, 0, 0, 0), 5, 0), ((17, .iconst 0, 1, 0, 0, 0, 0), 12, 0), ((18, .iconst 0, 1, 0, 0, 0, 0), 12, 0), ((19, .iconst 0, 1, 0, 0, 0, 0), 12, 0), ((20, .iload_n 2, 1, 0, 0, 0, 0), 1, 2), ((21, .invokevirtual 96, 3, 78, 5, 10, 542), 56, 0), ((24, .pop, 1, 0, 0, 0, 0), 58, 0), ((25, .aload_n 0, 1, 0, 0, 0, 0), 5, 0), ((26, .invokevirtual 93, 3, 77, 1, 10, 541), 56, 0), ((29, .aload_n 0, 1, 0, 0, 0, 0), 5, 0), ((30, .invokevirtual 207, 3, 114, 1, 10, 694), 56, 0)],
  [((33, .ifCond .eq 9, 3, 42, 0, 0, 0), 38, 0), ((36, .aload_n 0, 1, 0, 0, 0, 0), 5, 0), ((37, .iload_n 1, 1, 0, 0, 0, 0), 1, 1), ((38, .invokevirtual 210, 3, 144, 2, 10, 695), 56, 0), ((41, .pop, 1, 0, 0, 0, 0), 58, 0), ((42, .aload_n 0, 1, 0, 0, 0, 0), 5, 0), ((43, .bipush 20, 2, 20, 0, 0, 0), 13, 0), ((45, .iload_n 3, 1, 0, 0, 0, 0), 1, 3), ((46, .iconst 0, 1, 0, 0, 0, 0), 12, 0), ((47, .iload_n 2, 1, 0, 0, 0, 0), 1, 2)],
  [((48, .invokevirtual 96, 3, 78, 5, 10, 542), 56, 0), ((51, .pop, 1, 0, 0, 0, 0), 58, 0), ((52, .aload_n 0, 1, 0, 0, 0, 0), 5, 0), ((53, .getfield 32, 3, 10, 3, 20, 525), 50, 0), ((56, .iload_n 3, 1, 0, 0, 0, 0), 1, 3), ((57, .invokevirtual 148, 3, 162, 2, 11, 678), 56, 0), ((60, .aload_n 0, 1, 0, 0, 0, 0), 5, 0), ((61, .bipush 57, 2, 57, 0, 0, 0), 13, 0), ((63, .invokevirtual 173, 3, 111, 2, 10, 683), 56, 0)],
  [((66, .pop, 1, 0, 0, 0, 0), 58, 0), ((67, .return_, 1, 0, 0, 0, 0), 1000, 0)]])
def al_mX4_breakStatement : ev_MeK := (al_yX4_breakStatement, prog_6_method_16_code, 1, none, [[((0, .aload_n 0, 1, 0, 0, 0, 0), 5, 0), ((1, .getfield 32, 3, 10, 3, 20, 525), 50, 0), ((4, .invokevirtual 213, 3, 164, 1, 11, 696), 56, 0), ((7, .bipush (-2), 2, 4294967294, 0, 0, 0), 13, 0), ((9, .if_icmp .ne 9, 3, 18, 0, 0, 0), 45, 0), ((12, .aload_n 0, 1, 0, 0, 0, 0), 5, 0), ((13, .iconst 4, 1, 4, 0, 0, 0), 12, 0), ((14, .invokevirtual 106, 3, 109, 2, 10, 545), 56, 0)],
  [((17, .return_, 1, 0, 0, 0, 0), 1000, 0), ((18, .aload_n 0, 1, 0, 0, 0, 0), 5, 0), ((19, .invokevirtual 93, 3, 77, 1, 10, 541), 56, 0), ((22, .aload_n 0, 1, 0, 0, 0, 0), 5, 0), ((23, .getfield 32, 3, 10, 3, 20, 525), 50, 0), ((26, .aload_n 0, 1, 0, 0, 0, 0), 5, 0), ((27, .bipush 21, 2, 21, 0, 0, 0), 13, 0), ((29, .iconst 0, 1, 0, 0, 0, 0), 12, 0), ((30, .aload_n 0, 1, 0, 0, 0, 0), 5, 0), ((31, .getfield 32, 3, 10, 3, 20, 525), 50, 0)],
  [((34, .invokevirtual 213, 3, 164, 1, 11, 696), 56, 0), ((37, .iconst 0, 1, 0, 0, 0, 0), 12, 0), ((38, .invokevirtual 96, 3, 78, 5, 10, 542), 56, 0), ((41, .invokevirtual 216, 3, 165, 2, 11, 697), 56, 0), ((44, .return_, 1, 0, 0, 0, 0), 1000, 0)]])
def al_mX4_whileStatement : ev_MeK := (al_yX4_whileStatement, prog_6_method_17_code, 5, none, [[((0, .aload_n 0, 1, 0, 0, 0, 0), 5, 0), ((1, .getfield 32, 3, 10, 3, 20, 525), 50, 0), ((4, .invokevirtual 213, 3, 164, 1, 11, 696), 56, 0), ((7, .istore_n 2, 1, 0, 0, 0, 0), 7, 2), ((8, .aload_n 0, 1, 0, 0, 0, 0), 5, 0), ((9, .getfield 32, 3, 10, 3, 20, 525), 50, 0), ((12, .invokevirtual 109, 3, 84, 1, 11, 546), 56, 0), ((15, .istore_n 3, 1, 0, 0, 0, 0), 7, 3)],
  [((16, .aload_n 0, 1, 0, 0, 0, 0), 5, 0), ((17, .invokevirtual 93, 3, 77, 1, 10, 541), 56, 0), ((20, .aload_n 0, 1, 0, 0, 0, 0), 5, 0), ((21, .getfield 19, 3, 10, 1, 20, 519), 50, 0), ((24, .getfield 219, 3, 5, 4, 0, 698), 50, 0), ((27, .istore 4, 2, 0, 0, 0, 0), 6, 4), ((29, .aload_n 0, 1, 0, 0, 0, 0), 5, 0), ((30, .iconst 0, 1, 0, 0, 0, 0), 12, 0), ((31, .iconst 0, 1, 0, 0, 0, 0), 12, 0)],
  [((32, .iconst 0, 1, 0, 0, 0, 0), 12, 0), ((33, .iconst 0, 1, 0, 0, 0, 0), 12, 0), ((34, .invokevirtual 96, 3, 78, 5, 10, 542), 56, 0), ((37, .pop, 1, 0, 0, 0, 0), 58, 0), ((38, .aload_n 0, 1, 0, 0, 0, 0), 5, 0), ((39, .iconst 0, 1, 0, 0, 0, 0), 12, 0), ((40, .iload_n 1, 1, 0, 0, 0, 0), 1, 1), ((41, .iconst 1, 1, 1, 0, 0, 0), 12, 0), ((42, .iadd, 1, 0, 0, 0, 0), 16, 0), ((43, .invokevirtual 222, 3, 148, 3, 10, 699), 56, 0), ((46, .pop, 1, 0, 0, 0, 0), 58, 0), ((47, .aload_n 0, 1, 0, 0, 0, 0), 5, 0)],
  [((48, .getfield 32, 3, 10, 3, 20, 525), 50, 0), ((51, .aload_n 0, 1, 0, 0, 0, 0), 5, 0), ((52, .bipush 22, 2, 22, 0, 0, 0), 13, 0), ((54, .iconst 0, 1, 0, 0, 0, 0), 12, 0), ((55, .iconst (-1), 1, 4294967295, 0, 0, 0), 12, 0), ((56, .iconst 0, 1, 0, 0, 0, 0), 12, 0), ((57, .invokevirtual 96, 3, 78, 5, 10, 542), 56, 0), ((60, .invokevirtual 216, 3, 165, 2, 11, 697), 56, 0), ((63, .aload_n 0, 1, 0, 0, 0, 0), 5, 0)],
  [((64, .getfield 32, 3, 10, 3, 20, 525), 50, 0), ((67, .iconst (-1), 1, 4294967295, 0, 0, 0), 12, 0), ((68, .invokevirtual 145, 3, 163, 2, 11, 677), 56, 0), ((71, .aload_n 0, 1, 0, 0, 0, 0), 5, 0), ((72, .bipush 12, 2, 12, 0, 0, 0), 13, 0), ((74, .invokevirtual 180, 3, 110, 2, 10, 685), 56, 0), ((77, .aload_n 0, 1, 0, 0, 0, 0), 5, 0), ((78, .iload_n 1, 1, 0, 0, 0, 0), 1, 1), ((79, .iconst 1, 1, 1, 0, 0, 0), 12, 0)],
  [((80, .iadd, 1, 0, 0, 0, 0), 16, 0), ((81, .invokevirtual 177, 3, 115, 2, 10, 684), 56, 0), ((84, .aload_n 0, 1, 0, 0, 0, 0), 5, 0), ((85, .bipush 15, 2, 15, 0, 0, 0), 13, 0), ((87, .invokevirtual 180, 3, 110, 2, 10, 685), 56, 0), ((90, .aload_n 0, 1, 0, 0, 0, 0), 5, 0), ((91, .bipush 21, 2, 21, 0, 0, 0), 13, 0), ((93, .iconst 0, 1, 0, 0, 0, 0), 12, 0), ((94, .iload 4, 2, 0, 0, 0, 0), 0, 4)],
  [((96, .iconst 0, 1, 0, 0, 0, 0), 12, 0), ((97, .invokevirtual 96, 3, 78, 5, 10, 542), 56, 0), ((100, .pop, 1, 0, 0, 0, 0), 58, 0), ((101, .aload_n 0, 1, 0, 0, 0, 0), 5, 0), ((102, .iload_n 3, 1, 0, 0, 0, 0), 1, 3), ((103, .iload_n 2, 1, 0, 0, 0, 0), 1, 2), ((104, .invokevirtual 226, 3, 120, 3, 10, 700), 56, 0), ((107, .return_, 1, 0, 0, 0, 0), 1000, 0)]])
def al_mX4_endLoop : ev_MeK := (al_yX4_endLoop, prog_6_method_18_code, 3, none, [[((0, .aload_n 0, 1, 0, 0, 0, 0), 5, 0), ((1, .getfield 19, 3, 10, 1, 20, 519), 50, 0), ((4, .aload_n 0, 1, 0, 0, 0, 0), 5, 0), ((5, .getfield 32, 3, 10, 3, 20, 525), 50, 0), ((8, .invokevirtual 213, 3, 164, 1, 11, 696), 56, 0), ((11, .invokevirtual 230, 3, 159, 2, 5, 701), 56, 0), ((14, .aload_n 0, 1, 0, 0, 0, 0), 5, 0), ((15, .getfield 32, 3, 10, 3, 20, 525), 50, 0)],
  [((18, .iload_n 2, 1, 0, 0, 0, 0), 1, 2), ((19, .invokevirtual 216, 3, 165, 2, 11, 697), 56, 0), ((22, .aload_n 0, 1, 0, 0, 0, 0), 5, 0), ((23, .iload_n 1, 1, 0, 0, 0, 0), 1, 1), ((24, .invokevirtual 170, 3, 113, 2, 10, 682), 56, 0), ((27, .return_, 1, 0, 0, 0, 0), 1000, 0)]])
def al_mX4_repeatStatement : ev_MeK := (al_yX4_repeatStatement, prog_6_method_19_code, 7, none, [[((0, .aload_n 0, 1, 0, 0, 0, 0), 5, 0), ((1, .getfield 32, 3, 10, 3, 20, 525), 50, 0), ((4, .invokevirtual 213, 3, 164, 1, 11, 696), 56, 0), ((7, .istore_n 2, 1, 0, 0, 0, 0), 7, 2), ((8, .aload_n 0, 1, 0, 0, 0, 0), 5, 0), ((9, .getfield 32, 3, 10, 3, 20, 525), 50, 0), ((12, .invokevirtual 109, 3, 84, 1, 11, 546), 56, 0), ((15, .istore_n 3, 1, 0, 0, 0, 0), 7, 3)],
  [((16, .aload_n 0, 1, 0, 0, 0, 0), 5, 0), ((17, .getfield 32, 3, 10, 3, 20, 525), 50, 0), ((20, .getfield 164, 3, 11, 3, 0, 680), 50, 0), ((23, .istore 4, 2, 0, 0, 0, 0), 6, 4), ((25, .aload_n 0, 1, 0, 0, 0, 0), 5, 0), ((26, .invokevirtual 93, 3, 77, 1, 10, 541), 56, 0), ((29, .aload_n 0, 1, 0, 0, 0, 0), 5, 0), ((30, .getfield 19, 3, 10, 1, 20, 519), 50, 0)],
  [((33, .getfield 219, 3, 5, 4, 0, 698), 50, 0), ((36, .istore 5, 2, 0, 0, 0, 0), 6, 5), ((38, .aload_n 0, 1, 0, 0, 0, 0), 5, 0), ((39, .getfield 32, 3, 10, 3, 20, 525), 50, 0), ((42, .iconst (-1), 1, 4294967295, 0, 0, 0), 12, 0), ((43, .invokevirtual 216, 3, 165, 2, 11, 697), 56, 0), ((46, .aload_n 0, 1, 0, 0, 0, 0), 5, 0), ((47, .iload_n 1, 1, 0, 0, 0, 0), 1, 1)],
  [((48, .iconst 1, 1, 1, 0, 0, 0), 12, 0), ((49, .iadd, 1, 0, 0, 0, 0), 16, 0), ((50, .invokevirtual 100, 3, 80, 2, 10, 543), 56, 0), ((53, .aload_n 0, 1, 0, 0, 0, 0), 5, 0), ((54, .bipush 29, 2, 29, 0, 0, 0), 13, 0), ((56, .invokevirtual 180, 3, 110, 2, 10, 685), 56, 0), ((59, .aload_n 0, 1, 0, 0, 0, 0), 5, 0), ((60, .iconst 0, 1, 0, 0, 0, 0), 12, 0), ((61, .iconst 0, 1, 0, 0, 0, 0), 12, 0), ((62, .iconst 0, 1, 0, 0, 0, 0), 12, 0), ((63, .iconst 0, 1, 0, 0, 0, 0), 12, 0)],
  [((64, .invokevirtual 96, 3, 78, 5, 10, 542), 56, 0), ((67, .pop, 1, 0, 0, 0, 0), 58, 0), ((68, .aload_n 0, 1, 0, 0, 0, 0), 5, 0), ((69, .iconst 0, 1, 0, 0, 0, 0), 12, 0), ((70, .iload_n 1, 1, 0, 0, 0, 0), 1, 1), ((71, .iconst 1, 1, 1, 0, 0, 0), 12, 0), ((72, .iadd, 1, 0, 0, 0, 0), 16, 0), ((73, .invokevirtual 222, 3, 148, 3, 10, 699), 56, 0), ((76, .pop, 1, 0, 0, 0, 0), 58, 0), ((77, .aload_n 0, 1, 0, 0, 0, 0), 5, 0), ((78, .bipush 22, 2, 22, 0, 0, 0), 13, 0)],
  [((80, .iconst 0, 1, 0, 0, 0, 0), 12, 0), ((81, .iconst (-1), 1, 4294967295, 0, 0, 0), 12, 0), ((82, .iconst 0, 1, 0, 0, 0, 0), 12, 0), ((83, .invokevirtual 96, 3, 78, 5, 10, 542), 56, 0), ((86, .istore 6, 2, 0, 0, 0, 0), 6, 6), ((88, .aload_n 0, 1, 0, 0, 0, 0), 5, 0), ((89, .getfield 32, 3, 10, 3, 20, 525), 50, 0), ((92, .aload_n 0, 1, 0, 0, 0, 0), 5, 0), ((93, .bipush 21, 2, 21, 0, 0, 0), 13, 0), ((95, .iconst 0, 1, 0, 0, 0, 0), 12, 0)],
  [((96, .aload_n 0, 1, 0, 0, 0, 0), 5, 0), ((97, .getfield 32, 3, 10, 3, 20, 525), 50, 0), ((100, .invokevirtual 213, 3, 164, 1, 11, 696), 56, 0), ((103, .iconst 0, 1, 0, 0, 0, 0), 12, 0), ((104, .invokevirtual 96, 3, 78, 5, 10, 542), 56, 0), ((107, .invokevirtual 216, 3, 165, 2, 11, 697), 56, 0), ((110, .aload_n 0, 1, 0, 0, 0, 0), 5, 0), ((111, .getfield 19, 3, 10, 1, 20, 519), 50, 0)],
  [((114, .iload 6, 2, 0, 0, 0, 0), 0, 6), ((116, .invokevirtual 230, 3, 159, 2, 5, 701), 56, 0), ((119, .aload_n 0, 1, 0, 0, 0, 0), 5, 0), ((120, .iload_n 3, 1, 0, 0, 0, 0), 1, 3), ((121, .invokevirtual 170, 3, 113, 2, 10, 682), 56, 0), ((124, .aload_n 0, 1, 0, 0, 0, 0), 5, 0), ((125, .bipush 21, 2, 21, 0, 0, 0), 13, 0), ((127, .iconst 0, 1, 0, 0, 0, 0), 12, 0)],
  [((128, .iload 5, 2, 0, 0, 0, 0), 0, 5), ((130, .iconst 0, 1, 0, 0, 0, 0), 12, 0), ((131, .invokevirtual 96, 3, 78, 5, 10, 542), 56, 0), ((134, .pop, 1, 0, 0, 0, 0), 58, 0), ((135, .aload_n 0, 1, 0, 0, 0, 0), 5, 0), ((136, .getfield 32, 3, 10, 3, 20, 525), 50, 0), ((139, .iload 4, 2, 0, 0, 0, 0), 0, 4), ((141, .invokevirtual 167, 3, 168, 2, 11, 681), 56, 0)],
  [((144, .aload_n 0, 1, 0, 0, 0, 0), 5, 0), ((145, .iload_n 3, 1, 0, 0, 0, 0), 1, 3), ((146, .iload_n 2, 1, 0, 0, 0, 0), 1, 2), ((147, .invokevirtual 226, 3, 120, 3, 10, 700), 56, 0), ((150, .return_, 1, 0, 0, 0, 0), 1000, 0)]])
def al_mX4_ifStatement : ev_MeK := (al_yX4_ifStatement, prog_6_method_20_code, 5, none, [[((0, .iconst (-1), 1, 4294967295, 0, 0, 0), 12, 0), ((1, .istore_n 2, 1, 0, 0, 0, 0), 7, 2), ((2, .aload_n 0, 1, 0, 0, 0, 0), 5, 0), ((3, .invokevirtual 93, 3, 77, 1, 10, 541), 56, 0), ((6, .aload_n 0, 1, 0, 0, 0, 0), 5, 0), ((7, .iload_n 1, 1, 0, 0, 0, 0), 1, 1), ((8, .invokevirtual 233, 3, 123, 2, 10, 702), 56, 0), ((11, .istore_n 3, 1, 0, 0, 0, 0), 7, 3), ((12, .iconst 0, 1, 0, 0, 0, 0), 12, 0), ((13, .istore 4, 2, 0, 0, 0, 0), 6, 4), ((15, .iload 4, 2, 0, 0, 0, 0), 0, 4)],
  [((17, .sipush 1500, 3, 1500, 0, 0, 0), 14, 0), ((20, .if_icmp .gt 49, 3, 69, 0, 0, 0), 48, 0), ((23, .aload_n 0, 1, 0, 0, 0, 0), 5, 0), ((24, .getfield 15, 3, 10, 0, 20, 518), 50, 0), ((27, .getfield 103, 3, 9, 4, 0, 544), 50, 0), ((30, .bipush 14, 2, 14, 0, 0, 0), 13, 0)],
  [((32, .if_icmp .ne 37, 3, 69, 0, 0, 0), 45, 0), ((35, .aload_n 0, 1, 0, 0, 0, 0), 5, 0), ((36, .bipush 21, 2, 21, 0, 0, 0), 13, 0), ((38, .iconst 0, 1, 0, 0, 0, 0), 12, 0), ((39, .iload_n 2, 1, 0, 0, 0, 0), 1, 2), ((40, .iconst 0, 1, 0, 0, 0, 0), 12, 0), ((41, .invokevirtual 96, 3, 78, 5, 10, 542), 56, 0), ((44, .istore_n 2, 1, 0, 0, 0, 0), 7, 2), ((45, .aload_n 0, 1, 0, 0, 0, 0), 5, 0), ((46, .getfield 19, 3, 10, 1, 20, 519), 50, 0)],
  [((49, .iload_n 3, 1, 0, 0, 0, 0), 1, 3), ((50, .invokevirtual 230, 3, 159, 2, 5, 701), 56, 0), ((53, .aload_n 0, 1, 0, 0, 0, 0), 5, 0), ((54, .invokevirtual 93, 3, 77, 1, 10, 541), 56, 0), ((57, .aload_n 0, 1, 0, 0, 0, 0), 5, 0), ((58, .iload_n 1, 1, 0, 0, 0, 0), 1, 1), ((59, .invokevirtual 233, 3, 123, 2, 10, 702), 56, 0), ((62, .istore_n 3, 1, 0, 0, 0, 0), 7, 3), ((63, .iinc 4 1, 3, 1, 0, 0, 0), 36, 4)],
  [((66, .goto (-51), 3, 15, 0, 0, 0), 37, 0), ((69, .aload_n 0, 1, 0, 0, 0, 0), 5, 0), ((70, .getfield 15, 3, 10, 0, 20, 518), 50, 0), ((73, .getfield 103, 3, 9, 4, 0, 544), 50, 0), ((76, .bipush 13, 2, 13, 0, 0, 0), 13, 0), ((78, .if_icmp .ne 34, 3, 112, 0, 0, 0), 45, 0)],
  [((81, .aload_n 0, 1, 0, 0, 0, 0), 5, 0), ((82, .bipush 21, 2, 21, 0, 0, 0), 13, 0), ((84, .iconst 0, 1, 0, 0, 0, 0), 12, 0), ((85, .iload_n 2, 1, 0, 0, 0, 0), 1, 2), ((86, .iconst 0, 1, 0, 0, 0, 0), 12, 0), ((87, .invokevirtual 96, 3, 78, 5, 10, 542), 56, 0), ((90, .istore_n 2, 1, 0, 0, 0, 0), 7, 2), ((91, .aload_n 0, 1, 0, 0, 0, 0), 5, 0), ((92, .getfield 19, 3, 10, 1, 20, 519), 50, 0), ((95, .iload_n 3, 1, 0, 0, 0, 0), 1, 3)],
  [((96, .invokevirtual 230, 3, 159, 2, 5, 701), 56, 0), ((99, .iconst (-1), 1, 4294967295, 0, 0, 0), 12, 0), ((100, .istore_n 3, 1, 0, 0, 0, 0), 7, 3), ((101, .aload_n 0, 1, 0, 0, 0, 0), 5, 0), ((102, .invokevirtual 93, 3, 77, 1, 10, 541), 56, 0), ((105, .aload_n 0, 1, 0, 0, 0, 0), 5, 0), ((106, .iload_n 1, 1, 0, 0, 0, 0), 1, 1), ((107, .iconst 1, 1, 1, 0, 0, 0), 12, 0), ((108, .iadd, 1, 0, 0, 0, 0), 16, 0), ((109, .invokevirtual 177, 3, 115, 2, 10, 684), 56, 0)],
  [((112, .aload_n 0, 1, 0, 0, 0, 0), 5, 0), ((113, .bipush 15, 2, 15, 0, 0, 0), 13, 0), ((115, .invokevirtual 180, 3, 110, 2, 10, 685), 56, 0), ((118, .aload_n 0, 1, 0, 0, 0, 0), 5, 0), ((119, .getfield 19, 3, 10, 1, 20, 519), 50, 0), ((122, .iload_n 3, 1, 0, 0, 0, 0), 1, 3), ((123, .invokevirtual 230, 3, 159, 2, 5, 701), 56, 0), ((126, .aload_n 0, 1, 0, 0, 0, 0), 5, 0), ((127, .getfield 19, 3, 10, 1, 20, 519), 50, 0)],
  [((130, .iload_n 2, 1, 0, 0, 0, 0), 1, 2), ((131, .invokevirtual 230, 3, 159, 2, 5, 701), 56, 0), ((134, .return_, 1, 0, 0, 0, 0), 1000, 0)]])
def al_mX4_condition : ev_MeK := (al_yX4_condition, prog_6_method_21_code, 3, (some .int), [[((0, .aload_n 0, 1, 0, 0, 0, 0), 5, 0), ((1, .iconst 0, 1, 0, 0, 0, 0), 12, 0), ((2, .iload_n 1, 1, 0, 0, 0, 0), 1, 1), ((3, .iconst 1, 1, 1, 0, 0, 0), 12, 0), ((4, .iadd, 1, 0, 0, 0, 0), 16, 0), ((5, .invokevirtual 222, 3, 148, 3, 10, 699), 56, 0), ((8, .pop, 1, 0, 0, 0, 0), 58, 0), ((9, .aload_n 0, 1, 0, 0, 0, 0), 5, 0), ((10, .bipush 27, 2, 27, 0, 0, 0), 13, 0), ((12, .invokevirtual 180, 3, 110, 2, 10, 685), 56, 0), ((15, .aload_n 0, 1, 0, 0, 0, 0), 5, 0)],
  [((16, .bipush 22, 2, 22, 0, 0, 0), 13, 0), ((18, .iconst 0, 1, 0, 0, 0, 0), 12, 0), ((19, .iconst (-1), 1, 4294967295, 0, 0, 0), 12, 0), ((20, .iconst 0, 1, 0, 0, 0, 0), 12, 0), ((21, .invokevirtual 96, 3, 78, 5, 10, 542), 56, 0), ((24, .istore_n 2, 1, 0, 0, 0, 0), 7, 2), ((25, .aload_n 0, 1, 0, 0, 0, 0), 5, 0), ((26, .getfield 32, 3, 10, 3, 20, 525), 50, 0), ((29, .iconst (-1), 1, 4294967295, 0, 0, 0), 12, 0), ((30, .invokevirtual 145, 3, 163, 2, 11, 677), 56, 0)],
  [((33, .aload_n 0, 1, 0, 0, 0, 0), 5, 0), ((34, .iload_n 1, 1, 0, 0, 0, 0), 1, 1), ((35, .iconst 1, 1, 1, 0, 0, 0), 12, 0), ((36, .iadd, 1, 0, 0, 0, 0), 16, 0), ((37, .invokevirtual 177, 3, 115, 2, 10, 684), 56, 0), ((40, .iload_n 2, 1, 0, 0, 0, 0), 1, 2), ((41, .ireturn, 1, 0, 0, 0, 0), 1000, 0)]])
def al_mX4_newName : ev_MeK := (al_yX4_newName, prog_6_method_22_code, 1, none, [[((0, .aload_n 0, 1, 0, 0, 0, 0), 5, 0), ((1, .getfield 15, 3, 10, 0, 20, 518), 50, 0), ((4, .getfield 103, 3, 9, 4, 0, 544), 50, 0), ((7, .iconst 2, 1, 2, 0, 0, 0), 12, 0), ((8, .if_icmp .eq 11, 3, 19, 0, 0, 0), 44, 0), ((11, .aload_n 0, 1, 0, 0, 0, 0), 5, 0), ((12, .iconst 2, 1, 2, 0, 0, 0), 12, 0), ((13, .invokevirtual 106, 3, 109, 2, 10, 545), 56, 0)],
  [((16, .goto 26, 3, 42, 0, 0, 0), 37, 0), ((19, .aload_n 0, 1, 0, 0, 0, 0), 5, 0), ((20, .getfield 32, 3, 10, 3, 20, 525), 50, 0), ((23, .aload_n 0, 1, 0, 0, 0, 0), 5, 0), ((24, .getfield 15, 3, 10, 0, 20, 518), 50, 0), ((27, .getfield 236, 3, 9, 8, 10, 703), 50, 0), ((30, .l2i, 1, 0, 0, 0, 0), 33, 0), ((31, .invokevirtual 240, 3, 166, 2, 11, 704), 56, 0)],
  [((34, .ifCond .ne 8, 3, 42, 0, 0, 0), 39, 0), ((37, .aload_n 0, 1, 0, 0, 0, 0), 5, 0), ((38, .iconst 3, 1, 3, 0, 0, 0), 12, 0), ((39, .invokevirtual 106, 3, 109, 2, 10, 545), 56, 0), ((42, .return_, 1, 0, 0, 0, 0), 1000, 0)]])
def al_mX4_moreNames : ev_MeK := (al_yX4_moreNames, prog_6_method_23_code, 2, none, [[((0, .iconst 0, 1, 0, 0, 0, 0), 12, 0), ((1, .istore_n 1, 1, 0, 0, 0, 0), 7, 1), ((2, .iload_n 1, 1, 0, 0, 0, 0), 1, 1), ((3, .bipush 50, 2, 50, 0, 0, 0), 13, 0), ((5, .if_icmp .gt 33, 3, 38, 0, 0, 0), 48, 0), ((8, .aload_n 0, 1, 0, 0, 0, 0), 5, 0), ((9, .getfield 15, 3, 10, 0, 20, 518), 50, 0), ((12, .getfield 103, 3, 9, 4, 0, 544), 50, 0), ((15, .bipush 59, 2, 59, 0, 0, 0), 13, 0)],
  [((17, .if_icmp .ne 21, 3, 38, 0, 0, 0), 45, 0), ((20, .aload_n 0, 1, 0, 0, 0, 0), 5, 0), ((21, .invokevirtual 93, 3, 77, 1, 10, 541), 56, 0), ((24, .aload_n 0, 1, 0, 0, 0, 0), 5, 0), ((25, .invokevirtual 243, 3, 124, 1, 10, 705), 56, 0), ((28, .aload_n 0, 1, 0, 0, 0, 0), 5, 0), ((29, .invokevirtual 93, 3, 77, 1, 10, 541), 56, 0)],
  [((32, .iinc 1 1, 3, 1, 0, 0, 0), 36, 1), ((35, .goto (-33), 3, 2, 0, 0, 0), 37, 0), ((38, .return_, 1, 0, 0, 0, 0), 1000, 0)]])
def al_mX4_forStatement : ev_MeK := (al_yX4_forStatement, prog_6_method_24_code, 4, none, [[((0, .aload_n 0, 1, 0, 0, 0, 0), 5, 0), ((1, .getfield 15, 3, 10, 0, 20, 518), 50, 0), ((4, .getfield 121, 3, 9, 6, 0, 674), 50, 0), ((7, .istore_n 2, 1, 0, 0, 0, 0), 7, 2), ((8, .aload_n 0, 1, 0, 0, 0, 0), 5, 0), ((9, .getfield 32, 3, 10, 3, 20, 525), 50, 0), ((12, .getfield 164, 3, 11, 3, 0, 680), 50, 0), ((15, .istore_n 3, 1, 0, 0, 0, 0), 7, 3)],
  [((16, .aload_n 0, 1, 0, 0, 0, 0), 5, 0), ((17, .invokevirtual 93, 3, 77, 1, 10, 541), 56, 0), ((20, .aload_n 0, 1, 0, 0, 0, 0), 5, 0), ((21, .invokevirtual 243, 3, 124, 1, 10, 705), 56, 0), ((24, .aload_n 0, 1, 0, 0, 0, 0), 5, 0), ((25, .invokevirtual 93, 3, 77, 1, 10, 541), 56, 0), ((28, .aload_n 0, 1, 0, 0, 0, 0), 5, 0), ((29, .getfield 15, 3, 10, 0, 20, 518), 50, 0)],
  [((32, .getfield 103, 3, 9, 4, 0, 544), 50, 0), ((35, .bipush 49, 2, 49, 0, 0, 0), 13, 0), ((37, .if_icmp .ne 13, 3, 50, 0, 0, 0), 45, 0), ((40, .aload_n 0, 1, 0, 0, 0, 0), 5, 0), ((41, .iload_n 1, 1, 0, 0, 0, 0), 1, 1), ((42, .iload_n 2, 1, 0, 0, 0, 0), 1, 2), ((43, .iload_n 3, 1, 0, 0, 0, 0), 1, 3), ((44, .invokevirtual 246, 3, 127, 4, 10, 706), 56, 0), ((47, .goto 13, 3, 60, 0, 0, 0), 37, 0)],
  [((50, .aload_n 0, 1, 0, 0, 0, 0), 5, 0), ((51, .invokevirtual 250, 3, 125, 1, 10, 707), 56, 0), ((54, .aload_n 0, 1, 0, 0, 0, 0), 5, 0), ((55, .iload_n 1, 1, 0, 0, 0, 0), 1, 1), ((56, .iload_n 3, 1, 0, 0, 0, 0), 1, 3), ((57, .invokevirtual 253, 3, 128, 3, 10, 708), 56, 0), ((60, .aload_n 0, 1, 0, 0, 0, 0), 5, 0), ((61, .getfield 32, 3, 10, 3, 20, 525), 50, 0)],
  [((64, .iload_n 3, 1, 0, 0, 0, 0), 1, 3), ((65, .invokevirtual 167, 3, 168, 2, 11, 681), 56, 0), ((68, .return_, 1, 0, 0, 0, 0), 1000, 0)]])
def al_mX4_countingFor : ev_MeK := (al_yX4_countingFor, prog_6_method_25_code, 7, none, [[((0, .aload_n 0, 1, 0, 0, 0, 0), 5, 0), ((1, .getfield 32, 3, 10, 3, 20, 525), 50, 0), ((4, .invokevirtual 213, 3, 164, 1, 11, 696), 56, 0), ((7, .istore 4, 2, 0, 0, 0, 0), 6, 4), ((9, .aload_n 0, 1, 0, 0, 0, 0), 5, 0), ((10, .getfield 32, 3, 10, 3, 20, 525), 50, 0), ((13, .invokevirtual 109, 3, 84, 1, 11, 546), 56, 0)],
  [((16, .istore 5, 2, 0, 0, 0, 0), 6, 5), ((18, .aload_n 0, 1, 0, 0, 0, 0), 5, 0), ((19, .invokevirtual 93, 3, 77, 1, 10, 541), 56, 0), ((22, .aload_n 0, 1, 0, 0, 0, 0), 5, 0), ((23, .iconst 0, 1, 0, 0, 0, 0), 12, 0), ((24, .iload_n 1, 1, 0, 0, 0, 0), 1, 1), ((25, .iconst 1, 1, 1, 0, 0, 0), 12, 0), ((26, .iadd, 1, 0, 0, 0, 0), 16, 0), ((27, .invokevirtual 222, 3, 148, 3, 10, 699), 56, 0), ((30, .pop, 1, 0, 0, 0, 0), 58, 0), ((31, .aload_n 0, 1, 0, 0, 0, 0), 5, 0)],
  [((32, .bipush 59, 2, 59, 0, 0, 0), 13, 0), ((34, .invokevirtual 180, 3, 110, 2, 10, 685), 56, 0), ((37, .aload_n 0, 1, 0, 0, 0, 0), 5, 0), ((38, .iconst 0, 1, 0, 0, 0, 0), 12, 0), ((39, .iload_n 1, 1, 0, 0, 0, 0), 1, 1), ((40, .iconst 1, 1, 1, 0, 0, 0), 12, 0), ((41, .iadd, 1, 0, 0, 0, 0), 16, 0), ((42, .invokevirtual 222, 3, 148, 3, 10, 699), 56, 0), ((45, .pop, 1, 0, 0, 0, 0), 58, 0), ((46, .aload_n 0, 1, 0, 0, 0, 0), 5, 0), ((47, .bipush 59, 2, 59, 0, 0, 0), 13, 0)],
  [((49, .invokevirtual 173, 3, 111, 2, 10, 683), 56, 0), ((52, .ifCond .eq 15, 3, 67, 0, 0, 0), 38, 0), ((55, .aload_n 0, 1, 0, 0, 0, 0), 5, 0), ((56, .iconst 0, 1, 0, 0, 0, 0), 12, 0), ((57, .iload_n 1, 1, 0, 0, 0, 0), 1, 1), ((58, .iconst 1, 1, 1, 0, 0, 0), 12, 0), ((59, .iadd, 1, 0, 0, 0, 0), 16, 0), ((60, .invokevirtual 222, 3, 148, 3, 10, 699), 56, 0), ((63, .pop, 1, 0, 0, 0, 0), 58, 0)],
  [((64, .goto 18, 3, 82, 0, 0, 0), 37, 0), ((67, .aload_n 0, 1, 0, 0, 0, 0), 5, 0), ((68, .iconst 3, 1, 3, 0, 0, 0), 12, 0), ((69, .aload_n 0, 1, 0, 0, 0, 0), 5, 0), ((70, .getfield 19, 3, 10, 1, 20, 519), 50, 0), ((73, .lconst 1, 1, 0, 0, 0, 0), 15, 1), ((74, .invokevirtual 256, 3, 157, 2, 5, 709), 56, 0), ((77, .iload_n 2, 1, 0, 0, 0, 0), 1, 2), ((78, .iconst 1, 1, 1, 0, 0, 0), 12, 0), ((79, .invokevirtual 260, 3, 112, 5, 10, 710), 56, 0)],
  [((82, .aload_n 0, 1, 0, 0, 0, 0), 5, 0), ((83, .bipush 31, 2, 31, 0, 0, 0), 13, 0), ((85, .iload 5, 2, 0, 0, 0, 0), 0, 5), ((87, .iconst 0, 1, 0, 0, 0, 0), 12, 0), ((88, .iload_n 2, 1, 0, 0, 0, 0), 1, 2), ((89, .invokevirtual 96, 3, 78, 5, 10, 542), 56, 0), ((92, .pop, 1, 0, 0, 0, 0), 58, 0), ((93, .aload_n 0, 1, 0, 0, 0, 0), 5, 0), ((94, .getfield 19, 3, 10, 1, 20, 519), 50, 0)],
  [((97, .getfield 219, 3, 5, 4, 0, 698), 50, 0), ((100, .istore 6, 2, 0, 0, 0, 0), 6, 6), ((102, .aload_n 0, 1, 0, 0, 0, 0), 5, 0), ((103, .iconst 0, 1, 0, 0, 0, 0), 12, 0), ((104, .iconst 0, 1, 0, 0, 0, 0), 12, 0), ((105, .iconst 0, 1, 0, 0, 0, 0), 12, 0), ((106, .iconst 0, 1, 0, 0, 0, 0), 12, 0), ((107, .invokevirtual 96, 3, 78, 5, 10, 542), 56, 0), ((110, .pop, 1, 0, 0, 0, 0), 58, 0), ((111, .aload_n 0, 1, 0, 0, 0, 0), 5, 0)],
  [((112, .getfield 32, 3, 10, 3, 20, 525), 50, 0), ((115, .aload_n 0, 1, 0, 0, 0, 0), 5, 0), ((116, .bipush 32, 2, 32, 0, 0, 0), 13, 0), ((118, .iload 5, 2, 0, 0, 0, 0), 0, 5), ((120, .iconst (-1), 1, 4294967295, 0, 0, 0), 12, 0), ((121, .iconst 0, 1, 0, 0, 0, 0), 12, 0), ((122, .invokevirtual 96, 3, 78, 5, 10, 542), 56, 0), ((125, .invokevirtual 216, 3, 165, 2, 11, 697), 56, 0)],
  [((128, .aload_n 0, 1, 0, 0, 0, 0), 5, 0), ((129, .bipush 12, 2, 12, 0, 0, 0), 13, 0), ((131, .invokevirtual 180, 3, 110, 2, 10, 685), 56, 0), ((134, .aload_n 0, 1, 0, 0, 0, 0), 5, 0), ((135, .getfield 32, 3, 10, 3, 20, 525), 50, 0), ((138, .iload 5, 2, 0, 0, 0, 0), 0, 5), ((140, .iconst 4, 1, 4, 0, 0, 0), 12, 0), ((141, .iadd, 1, 0, 0, 0, 0), 16, 0), ((142, .invokevirtual 148, 3, 162, 2, 11, 678), 56, 0)],
  [((145, .aload_n 0, 1, 0, 0, 0, 0), 5, 0), ((146, .getfield 32, 3, 10, 3, 20, 525), 50, 0), ((149, .iload_n 3, 1, 0, 0, 0, 0), 1, 3), ((150, .iload 5, 2, 0, 0, 0, 0), 0, 5), ((152, .iconst 3, 1, 3, 0, 0, 0), 12, 0), ((153, .iadd, 1, 0, 0, 0, 0), 16, 0), ((154, .invokevirtual 264, 3, 167, 3, 11, 711), 56, 0), ((157, .aload_n 0, 1, 0, 0, 0, 0), 5, 0), ((158, .iload_n 1, 1, 0, 0, 0, 0), 1, 1), ((159, .iconst 1, 1, 1, 0, 0, 0), 12, 0)],
  [((160, .iadd, 1, 0, 0, 0, 0), 16, 0), ((161, .invokevirtual 100, 3, 80, 2, 10, 543), 56, 0), ((164, .aload_n 0, 1, 0, 0, 0, 0), 5, 0), ((165, .bipush 15, 2, 15, 0, 0, 0), 13, 0), ((167, .invokevirtual 180, 3, 110, 2, 10, 685), 56, 0), ((170, .aload_n 0, 1, 0, 0, 0, 0), 5, 0), ((171, .iload 5, 2, 0, 0, 0, 0), 0, 5), ((173, .iconst 3, 1, 3, 0, 0, 0), 12, 0), ((174, .iadd, 1, 0, 0, 0, 0), 16, 0), ((175, .invokevirtual 170, 3, 113, 2, 10, 682), 56, 0)],
  [((178, .aload_n 0, 1, 0, 0, 0, 0), 5, 0), ((179, .bipush 33, 2, 33, 0, 0, 0), 13, 0), ((181, .iload 5, 2, 0, 0, 0, 0), 0, 5), ((183, .iload 6, 2, 0, 0, 0, 0), 0, 6), ((185, .iconst 0, 1, 0, 0, 0, 0), 12, 0), ((186, .invokevirtual 96, 3, 78, 5, 10, 542), 56, 0), ((189, .pop, 1, 0, 0, 0, 0), 58, 0), ((190, .aload_n 0, 1, 0, 0, 0, 0), 5, 0), ((191, .iload 5, 2, 0, 0, 0, 0), 0, 5)],
  [((193, .iload 4, 2, 0, 0, 0, 0), 0, 4), ((195, .invokevirtual 226, 3, 120, 3, 10, 700), 56, 0), ((198, .return_, 1, 0, 0, 0, 0), 1000, 0)]])
def al_mX4_rowFor : ev_MeK := (al_yX4_rowFor, prog_6_method_26_code, 9, none, [[((0, .aload_n 0, 1, 0, 0, 0, 0), 5, 0), ((1, .getfield 32, 3, 10, 3, 20, 525), 50, 0), ((4, .invokevirtual 213, 3, 164, 1, 11, 696), 56, 0), ((7, .istore_n 3, 1, 0, 0, 0, 0), 7, 3), ((8, .aload_n 0, 1, 0, 0, 0, 0), 5, 0), ((9, .getfield 32, 3, 10, 3, 20, 525), 50, 0), ((12, .invokevirtual 109, 3, 84, 1, 11, 546), 56, 0), ((15, .istore 4, 2, 0, 0, 0, 0), 6, 4)],
  [((17, .aload_n 0, 1, 0, 0, 0, 0), 5, 0), ((18, .getfield 32, 3, 10, 3, 20, 525), 50, 0), ((21, .getfield 164, 3, 11, 3, 0, 680), 50, 0), ((24, .iload_n 2, 1, 0, 0, 0, 0), 1, 2), ((25, .isub, 1, 0, 0, 0, 0), 17, 0), ((26, .istore 5, 2, 0, 0, 0, 0), 6, 5), ((28, .aload_n 0, 1, 0, 0, 0, 0), 5, 0), ((29, .getfield 15, 3, 10, 0, 20, 518), 50, 0)],
  [((32, .getfield 121, 3, 9, 6, 0, 674), 50, 0), ((35, .istore 6, 2, 0, 0, 0, 0), 6, 6), ((37, .aload_n 0, 1, 0, 0, 0, 0), 5, 0), ((38, .bipush 20, 2, 20, 0, 0, 0), 13, 0), ((40, .invokevirtual 180, 3, 110, 2, 10, 685), 56, 0), ((43, .aload_n 0, 1, 0, 0, 0, 0), 5, 0), ((44, .aload_n 0, 1, 0, 0, 0, 0), 5, 0), ((45, .iload_n 1, 1, 0, 0, 0, 0), 1, 1), ((46, .iconst 1, 1, 1, 0, 0, 0), 12, 0), ((47, .iadd, 1, 0, 0, 0, 0), 16, 0)],
  [((48, .invokevirtual 210, 3, 144, 2, 10, 695), 56, 0), ((51, .iload 4, 2, 0, 0, 0, 0), 0, 4), ((53, .iconst 3, 1, 3, 0, 0, 0), 12, 0), ((54, .iload 6, 2, 0, 0, 0, 0), 0, 6), ((56, .invokevirtual 267, 3, 129, 5, 10, 712), 56, 0), ((59, .aload_n 0, 1, 0, 0, 0, 0), 5, 0), ((60, .getfield 19, 3, 10, 1, 20, 519), 50, 0), ((63, .getfield 219, 3, 5, 4, 0, 698), 50, 0)],
  [((66, .istore 7, 2, 0, 0, 0, 0), 6, 7), ((68, .aload_n 0, 1, 0, 0, 0, 0), 5, 0), ((69, .iconst 0, 1, 0, 0, 0, 0), 12, 0), ((70, .iconst 0, 1, 0, 0, 0, 0), 12, 0), ((71, .iconst 0, 1, 0, 0, 0, 0), 12, 0), ((72, .iconst 0, 1, 0, 0, 0, 0), 12, 0), ((73, .invokevirtual 96, 3, 78, 5, 10, 542), 56, 0), ((76, .pop, 1, 0, 0, 0, 0), 58, 0), ((77, .iconst 0, 1, 0, 0, 0, 0), 12, 0), ((78, .istore 8, 2, 0, 0, 0, 0), 6, 8)],
  [((80, .iload 8, 2, 0, 0, 0, 0), 0, 8), ((82, .iconst 3, 1, 3, 0, 0, 0), 12, 0), ((83, .if_icmp .ge 22, 3, 105, 0, 0, 0), 47, 0), ((86, .aload_n 0, 1, 0, 0, 0, 0), 5, 0), ((87, .iconst 5, 1, 5, 0, 0, 0), 12, 0), ((88, .iload 4, 2, 0, 0, 0, 0), 0, 4), ((90, .iload 8, 2, 0, 0, 0, 0), 0, 8), ((92, .iadd, 1, 0, 0, 0, 0), 16, 0), ((93, .iconst 0, 1, 0, 0, 0, 0), 12, 0), ((94, .iconst 0, 1, 0, 0, 0, 0), 12, 0), ((95, .invokevirtual 96, 3, 78, 5, 10, 542), 56, 0)],
  [((98, .pop, 1, 0, 0, 0, 0), 58, 0), ((99, .iinc 8 1, 3, 1, 0, 0, 0), 36, 8), ((102, .goto (-22), 3, 80, 0, 0, 0), 37, 0), ((105, .aload_n 0, 1, 0, 0, 0, 0), 5, 0), ((106, .bipush 19, 2, 19, 0, 0, 0), 13, 0), ((108, .iload 4, 2, 0, 0, 0, 0), 0, 4), ((110, .iconst 3, 1, 3, 0, 0, 0), 12, 0), ((111, .iadd, 1, 0, 0, 0, 0), 16, 0)],
  [((112, .iload 5, 2, 0, 0, 0, 0), 0, 5), ((114, .iload 6, 2, 0, 0, 0, 0), 0, 6), ((116, .invokevirtual 96, 3, 78, 5, 10, 542), 56, 0), ((119, .pop, 1, 0, 0, 0, 0), 58, 0), ((120, .aload_n 0, 1, 0, 0, 0, 0), 5, 0), ((121, .getfield 32, 3, 10, 3, 20, 525), 50, 0), ((124, .aload_n 0, 1, 0, 0, 0, 0), 5, 0), ((125, .bipush 34, 2, 34, 0, 0, 0), 13, 0), ((127, .iload 4, 2, 0, 0, 0, 0), 0, 4)],
  [((129, .iconst (-1), 1, 4294967295, 0, 0, 0), 12, 0), ((130, .iconst 0, 1, 0, 0, 0, 0), 12, 0), ((131, .invokevirtual 96, 3, 78, 5, 10, 542), 56, 0), ((134, .invokevirtual 216, 3, 165, 2, 11, 697), 56, 0), ((137, .aload_n 0, 1, 0, 0, 0, 0), 5, 0), ((138, .bipush 12, 2, 12, 0, 0, 0), 13, 0), ((140, .invokevirtual 180, 3, 110, 2, 10, 685), 56, 0), ((143, .aload_n 0, 1, 0, 0, 0, 0), 5, 0)],
  [((144, .getfield 32, 3, 10, 3, 20, 525), 50, 0), ((147, .iload 4, 2, 0, 0, 0, 0), 0, 4), ((149, .iconst 3, 1, 3, 0, 0, 0), 12, 0), ((150, .iadd, 1, 0, 0, 0, 0), 16, 0), ((151, .iload 5, 2, 0, 0, 0, 0), 0, 5), ((153, .iadd, 1, 0, 0, 0, 0), 16, 0), ((154, .invokevirtual 148, 3, 162, 2, 11, 678), 56, 0), ((157, .aload_n 0, 1, 0, 0, 0, 0), 5, 0), ((158, .getfield 32, 3, 10, 3, 20, 525), 50, 0)],
  [((161, .iload_n 2, 1, 0, 0, 0, 0), 1, 2), ((162, .iload 4, 2, 0, 0, 0, 0), 0, 4), ((164, .iconst 3, 1, 3, 0, 0, 0), 12, 0), ((165, .iadd, 1, 0, 0, 0, 0), 16, 0), ((166, .invokevirtual 264, 3, 167, 3, 11, 711), 56, 0), ((169, .aload_n 0, 1, 0, 0, 0, 0), 5, 0), ((170, .iload_n 1, 1, 0, 0, 0, 0), 1, 1), ((171, .iconst 1, 1, 1, 0, 0, 0), 12, 0), ((172, .iadd, 1, 0, 0, 0, 0), 16, 0), ((173, .invokevirtual 100, 3, 80, 2, 10, 543), 56, 0)],
  [((176, .aload_n 0, 1, 0, 0, 0, 0), 5, 0), ((177, .bipush 15, 2, 15, 0, 0, 0), 13, 0), ((179, .invokevirtual 180, 3, 110, 2, 10, 685), 56, 0), ((182, .aload_n 0, 1, 0, 0, 0, 0), 5, 0), ((183, .iload 4, 2, 0, 0, 0, 0), 0, 4), ((185, .iconst 3, 1, 3, 0, 0, 0), 12, 0), ((186, .iadd, 1, 0, 0, 0, 0), 16, 0), ((187, .invokevirtual 170, 3, 113, 2, 10, 682), 56, 0), ((190, .aload_n 0, 1, 0, 0, 0, 0), 5, 0), ((191, .bipush 21, 2, 21, 0, 0, 0), 13, 0)],
  [((193, .iconst 0, 1, 0, 0, 0, 0), 12, 0), ((194, .iload 7, 2, 0, 0, 0, 0), 0, 7), ((196, .iconst 0, 1, 0, 0, 0, 0), 12, 0), ((197, .invokevirtual 96, 3, 78, 5, 10, 542), 56, 0), ((200, .pop, 1, 0, 0, 0, 0), 58, 0), ((201, .aload_n 0, 1, 0, 0, 0, 0), 5, 0), ((202, .iload 4, 2, 0, 0, 0, 0), 0, 4), ((204, .iload_n 3, 1, 0, 0, 0, 0), 1, 3), ((205, .invokevirtual 226, 3, 120, 3, 10, 700), 56, 0)],
  [((208, .return_, 1, 0, 0, 0, 0), 1000, 0)]])
def al_mX4_adjust : ev_MeK := (al_yX4_adjust, prog_6_method_27_code, 6, none, [[((0, .iload_n 1, 1, 0, 0, 0, 0), 1, 1), ((1, .iconst 1, 1, 1, 0, 0, 0), 12, 0), ((2, .iand, 1, 0, 0, 0, 0), 19, 0), ((3, .iconst 1, 1, 1, 0, 0, 0), 12, 0), ((4, .if_icmp .ne 7, 3, 11, 0, 0, 0), 45, 0), ((7, .iconst 1, 1, 1, 0, 0, 0), 12, 0), ((8, .goto 4, 3, 12, 0, 0, 0), 37, 0), ((11, .iconst 0, 1, 0, 0, 0, 0), 12, 0), ((12, .istore 5, 2, 0, 0, 0, 0), 6, 5), ((14, .iload 5, 2, 0, 0, 0, 0), 0, 5)],
  [((16, .ifCond .ne 10, 3, 26, 0, 0, 0), 39, 0), ((19, .iload_n 1, 1, 0, 0, 0, 0), 1, 1), ((20, .iconst 2, 1, 2, 0, 0, 0), 12, 0), ((21, .idiv, 1, 0, 0, 0, 0), 58, 0), ((22, .iload_n 3, 1, 0, 0, 0, 0), 1, 3), ((23, .if_icmp .eq 14, 3, 37, 0, 0, 0), 44, 0), ((26, .aload_n 0, 1, 0, 0, 0, 0), 5, 0), ((27, .bipush 28, 2, 28, 0, 0, 0), 13, 0), ((29, .iload_n 2, 1, 0, 0, 0, 0), 1, 2), ((30, .iload_n 3, 1, 0, 0, 0, 0), 1, 3), ((31, .iload 4, 2, 0, 0, 0, 0), 0, 4)],
  [((33, .invokevirtual 96, 3, 78, 5, 10, 542), 56, 0), ((36, .pop, 1, 0, 0, 0, 0), 58, 0), ((37, .aload_n 0, 1, 0, 0, 0, 0), 5, 0), ((38, .getfield 32, 3, 10, 3, 20, 525), 50, 0), ((41, .iload_n 2, 1, 0, 0, 0, 0), 1, 2), ((42, .iload_n 3, 1, 0, 0, 0, 0), 1, 3), ((43, .iadd, 1, 0, 0, 0, 0), 16, 0), ((44, .invokevirtual 148, 3, 162, 2, 11, 678), 56, 0), ((47, .return_, 1, 0, 0, 0, 0), 1000, 0)]])
def al_mX4_localStatement : ev_MeK := (al_yX4_localStatement, prog_6_method_28_code, 6, none, [[((0, .aload_n 0, 1, 0, 0, 0, 0), 5, 0), ((1, .getfield 32, 3, 10, 3, 20, 525), 50, 0), ((4, .getfield 164, 3, 11, 3, 0, 680), 50, 0), ((7, .istore_n 2, 1, 0, 0, 0, 0), 7, 2), ((8, .aload_n 0, 1, 0, 0, 0, 0), 5, 0), ((9, .getfield 32, 3, 10, 3, 20, 525), 50, 0), ((12, .invokevirtual 109, 3, 84, 1, 11, 546), 56, 0), ((15, .istore_n 3, 1, 0, 0, 0, 0), 7, 3)],
  [((16, .aload_n 0, 1, 0, 0, 0, 0), 5, 0), ((17, .invokevirtual 93, 3, 77, 1, 10, 541), 56, 0), ((20, .aload_n 0, 1, 0, 0, 0, 0), 5, 0), ((21, .bipush 18, 2, 18, 0, 0, 0), 13, 0), ((23, .invokevirtual 173, 3, 111, 2, 10, 683), 56, 0), ((26, .ifCond .eq 44, 3, 70, 0, 0, 0), 38, 0), ((29, .aload_n 0, 1, 0, 0, 0, 0), 5, 0), ((30, .invokevirtual 243, 3, 124, 1, 10, 705), 56, 0)],
  [((33, .aload_n 0, 1, 0, 0, 0, 0), 5, 0), ((34, .invokevirtual 93, 3, 77, 1, 10, 541), 56, 0), ((37, .aload_n 0, 1, 0, 0, 0, 0), 5, 0), ((38, .iconst 1, 1, 1, 0, 0, 0), 12, 0), ((39, .iconst 1, 1, 1, 0, 0, 0), 12, 0), ((40, .iconst 0, 1, 0, 0, 0, 0), 12, 0), ((41, .iconst 1, 1, 1, 0, 0, 0), 12, 0), ((42, .invokevirtual 260, 3, 112, 5, 10, 710), 56, 0), ((45, .aload_n 0, 1, 0, 0, 0, 0), 5, 0), ((46, .getfield 32, 3, 10, 3, 20, 525), 50, 0)],
  [((49, .iload_n 2, 1, 0, 0, 0, 0), 1, 2), ((50, .iload_n 3, 1, 0, 0, 0, 0), 1, 3), ((51, .invokevirtual 264, 3, 167, 3, 11, 711), 56, 0), ((54, .aload_n 0, 1, 0, 0, 0, 0), 5, 0), ((55, .iload_n 1, 1, 0, 0, 0, 0), 1, 1), ((56, .iconst 0, 1, 0, 0, 0, 0), 12, 0), ((57, .invokevirtual 270, 3, 155, 3, 10, 713), 56, 0), ((60, .aload_n 0, 1, 0, 0, 0, 0), 5, 0), ((61, .bipush 6, 2, 6, 0, 0, 0), 13, 0), ((63, .iload_n 3, 1, 0, 0, 0, 0), 1, 3)],
  [((64, .iconst 0, 1, 0, 0, 0, 0), 12, 0), ((65, .iconst (-1), 1, 4294967295, 0, 0, 0), 12, 0), ((66, .invokevirtual 260, 3, 112, 5, 10, 710), 56, 0), ((69, .return_, 1, 0, 0, 0, 0), 1000, 0), ((70, .aload_n 0, 1, 0, 0, 0, 0), 5, 0), ((71, .invokevirtual 243, 3, 124, 1, 10, 705), 56, 0), ((74, .aload_n 0, 1, 0, 0, 0, 0), 5, 0), ((75, .invokevirtual 93, 3, 77, 1, 10, 541), 56, 0), ((78, .aload_n 0, 1, 0, 0, 0, 0), 5, 0), ((79, .invokevirtual 250, 3, 125, 1, 10, 707), 56, 0)],
  [((82, .aload_n 0, 1, 0, 0, 0, 0), 5, 0), ((83, .getfield 32, 3, 10, 3, 20, 525), 50, 0), ((86, .getfield 164, 3, 11, 3, 0, 680), 50, 0), ((89, .iload_n 2, 1, 0, 0, 0, 0), 1, 2), ((90, .isub, 1, 0, 0, 0, 0), 17, 0), ((91, .istore 4, 2, 0, 0, 0, 0), 6, 4), ((93, .aload_n 0, 1, 0, 0, 0, 0), 5, 0), ((94, .getfield 15, 3, 10, 0, 20, 518), 50, 0)],
  [((97, .getfield 121, 3, 9, 6, 0, 674), 50, 0), ((100, .istore 5, 2, 0, 0, 0, 0), 6, 5), ((102, .aload_n 0, 1, 0, 0, 0, 0), 5, 0), ((103, .bipush 49, 2, 49, 0, 0, 0), 13, 0), ((105, .invokevirtual 173, 3, 111, 2, 10, 683), 56, 0), ((108, .ifCond .eq 22, 3, 130, 0, 0, 0), 38, 0), ((111, .aload_n 0, 1, 0, 0, 0, 0), 5, 0)],
  [((112, .aload_n 0, 1, 0, 0, 0, 0), 5, 0), ((113, .iload_n 1, 1, 0, 0, 0, 0), 1, 1), ((114, .iconst 1, 1, 1, 0, 0, 0), 12, 0), ((115, .iadd, 1, 0, 0, 0, 0), 16, 0), ((116, .invokevirtual 210, 3, 144, 2, 10, 695), 56, 0), ((119, .iload_n 3, 1, 0, 0, 0, 0), 1, 3), ((120, .iload 4, 2, 0, 0, 0, 0), 0, 4), ((122, .iload 5, 2, 0, 0, 0, 0), 0, 5), ((124, .invokevirtual 267, 3, 129, 5, 10, 712), 56, 0), ((127, .goto 13, 3, 140, 0, 0, 0), 37, 0)],
  [((130, .aload_n 0, 1, 0, 0, 0, 0), 5, 0), ((131, .iconst 1, 1, 1, 0, 0, 0), 12, 0), ((132, .iload 4, 2, 0, 0, 0, 0), 0, 4), ((134, .iconst 0, 1, 0, 0, 0, 0), 12, 0), ((135, .iload 4, 2, 0, 0, 0, 0), 0, 4), ((137, .invokevirtual 260, 3, 112, 5, 10, 710), 56, 0), ((140, .aload_n 0, 1, 0, 0, 0, 0), 5, 0), ((141, .getfield 32, 3, 10, 3, 20, 525), 50, 0)],
  [((144, .iload_n 2, 1, 0, 0, 0, 0), 1, 2), ((145, .iload_n 3, 1, 0, 0, 0, 0), 1, 3), ((146, .invokevirtual 264, 3, 167, 3, 11, 711), 56, 0), ((149, .return_, 1, 0, 0, 0, 0), 1000, 0)]])
def al_mX4_functionStatement : ev_MeK := (al_yX4_functionStatement, prog_6_method_29_code, 7, none, [[((0, .aload_n 0, 1, 0, 0, 0, 0), 5, 0), ((1, .getfield 32, 3, 10, 3, 20, 525), 50, 0), ((4, .invokevirtual 109, 3, 84, 1, 11, 546), 56, 0), ((7, .istore_n 2, 1, 0, 0, 0, 0), 7, 2), ((8, .aload_n 0, 1, 0, 0, 0, 0), 5, 0), ((9, .invokevirtual 93, 3, 77, 1, 10, 541), 56, 0), ((12, .aload_n 0, 1, 0, 0, 0, 0), 5, 0), ((13, .invokevirtual 274, 3, 133, 1, 10, 714), 56, 0)],
  [((16, .iconst 0, 1, 0, 0, 0, 0), 12, 0), ((17, .istore_n 3, 1, 0, 0, 0, 0), 7, 3), ((18, .iload_n 3, 1, 0, 0, 0, 0), 1, 3), ((19, .sipush 1500, 3, 1500, 0, 0, 0), 14, 0), ((22, .if_icmp .gt 25, 3, 47, 0, 0, 0), 48, 0), ((25, .aload_n 0, 1, 0, 0, 0, 0), 5, 0), ((26, .getfield 15, 3, 10, 0, 20, 518), 50, 0), ((29, .getfield 103, 3, 9, 4, 0, 544), 50, 0)],
  [((32, .bipush 60, 2, 60, 0, 0, 0), 13, 0), ((34, .if_icmp .ne 13, 3, 47, 0, 0, 0), 45, 0), ((37, .aload_n 0, 1, 0, 0, 0, 0), 5, 0), ((38, .invokevirtual 277, 3, 134, 1, 10, 715), 56, 0), ((41, .iinc 3 1, 3, 1, 0, 0, 0), 36, 3), ((44, .goto (-26), 3, 18, 0, 0, 0), 37, 0), ((47, .aload_n 0, 1, 0, 0, 0, 0), 5, 0)],
  [((48, .getfield 15, 3, 10, 0, 20, 518), 50, 0), ((51, .getfield 103, 3, 9, 4, 0, 544), 50, 0), ((54, .bipush 58, 2, 58, 0, 0, 0), 13, 0), ((56, .if_icmp .ne 7, 3, 63, 0, 0, 0), 45, 0), ((59, .iconst 1, 1, 1, 0, 0, 0), 12, 0), ((60, .goto 4, 3, 64, 0, 0, 0), 37, 0), ((63, .iconst 0, 1, 0, 0, 0, 0), 12, 0)],
  [((64, .istore_n 3, 1, 0, 0, 0, 0), 7, 3), ((65, .iload_n 3, 1, 0, 0, 0, 0), 1, 3), ((66, .ifCond .eq 7, 3, 73, 0, 0, 0), 38, 0), ((69, .aload_n 0, 1, 0, 0, 0, 0), 5, 0), ((70, .invokevirtual 277, 3, 134, 1, 10, 715), 56, 0), ((73, .aload_n 0, 1, 0, 0, 0, 0), 5, 0), ((74, .getfield 280, 3, 10, 7, 0, 716), 50, 0), ((77, .istore 4, 2, 0, 0, 0, 0), 6, 4), ((79, .aload_n 0, 1, 0, 0, 0, 0), 5, 0)],
  [((80, .getfield 283, 3, 10, 8, 0, 717), 50, 0), ((83, .istore 5, 2, 0, 0, 0, 0), 6, 5), ((85, .aload_n 0, 1, 0, 0, 0, 0), 5, 0), ((86, .getfield 286, 3, 10, 9, 0, 718), 50, 0), ((89, .istore 6, 2, 0, 0, 0, 0), 6, 6), ((91, .aload_n 0, 1, 0, 0, 0, 0), 5, 0), ((92, .iload_n 1, 1, 0, 0, 0, 0), 1, 1), ((93, .iload_n 3, 1, 0, 0, 0, 0), 1, 3), ((94, .invokevirtual 270, 3, 155, 3, 10, 713), 56, 0)],
  [((97, .aload_n 0, 1, 0, 0, 0, 0), 5, 0), ((98, .iload 4, 2, 0, 0, 0, 0), 0, 4), ((100, .iload 5, 2, 0, 0, 0, 0), 0, 5), ((102, .iload 6, 2, 0, 0, 0, 0), 0, 6), ((104, .invokevirtual 289, 3, 143, 4, 10, 719), 56, 0), ((107, .aload_n 0, 1, 0, 0, 0, 0), 5, 0), ((108, .iload_n 2, 1, 0, 0, 0, 0), 1, 2), ((109, .invokevirtual 292, 3, 132, 2, 10, 720), 56, 0)],
  [((112, .return_, 1, 0, 0, 0, 0), 1000, 0)]])
def al_mX4_cutIfNeeded : ev_MeK := (al_yX4_cutIfNeeded, prog_6_method_30_code, 2, none, [[((0, .aload_n 0, 1, 0, 0, 0, 0), 5, 0), ((1, .getfield 32, 3, 10, 3, 20, 525), 50, 0), ((4, .invokevirtual 109, 3, 84, 1, 11, 546), 56, 0), ((7, .iload_n 1, 1, 0, 0, 0, 0), 1, 1), ((8, .if_icmp .eq 8, 3, 16, 0, 0, 0), 44, 0), ((11, .aload_n 0, 1, 0, 0, 0, 0), 5, 0), ((12, .iload_n 1, 1, 0, 0, 0, 0), 1, 1), ((13, .invokevirtual 170, 3, 113, 2, 10, 682), 56, 0)],
  [((16, .return_, 1, 0, 0, 0, 0), 1000, 0)]])
def al_mX4_startName : ev_MeK := (al_yX4_startName, prog_6_method_31_code, 1, none, [[((0, .aload_n 0, 1, 0, 0, 0, 0), 5, 0), ((1, .getfield 15, 3, 10, 0, 20, 518), 50, 0), ((4, .getfield 103, 3, 9, 4, 0, 544), 50, 0), ((7, .iconst 2, 1, 2, 0, 0, 0), 12, 0), ((8, .if_icmp .eq 9, 3, 17, 0, 0, 0), 44, 0), ((11, .aload_n 0, 1, 0, 0, 0, 0), 5, 0), ((12, .iconst 2, 1, 2, 0, 0, 0), 12, 0), ((13, .invokevirtual 106, 3, 109, 2, 10, 545), 56, 0)],
  [((16, .return_, 1, 0, 0, 0, 0), 1000, 0), ((17, .aload_n 0, 1, 0, 0, 0, 0), 5, 0), ((18, .getfield 32, 3, 10, 3, 20, 525), 50, 0), ((21, .aload_n 0, 1, 0, 0, 0, 0), 5, 0), ((22, .getfield 15, 3, 10, 0, 20, 518), 50, 0), ((25, .getfield 236, 3, 9, 8, 10, 703), 50, 0), ((28, .l2i, 1, 0, 0, 0, 0), 33, 0), ((29, .invokevirtual 295, 3, 169, 2, 11, 721), 56, 0)],
  [((32, .ifCond .ne 9, 3, 41, 0, 0, 0), 39, 0), ((35, .aload_n 0, 1, 0, 0, 0, 0), 5, 0), ((36, .iconst 3, 1, 3, 0, 0, 0), 12, 0), ((37, .invokevirtual 106, 3, 109, 2, 10, 545), 56, 0), ((40, .return_, 1, 0, 0, 0, 0), 1000, 0), ((41, .aload_n 0, 1, 0, 0, 0, 0), 5, 0), ((42, .aload_n 0, 1, 0, 0, 0, 0), 5, 0), ((43, .getfield 32, 3, 10, 3, 20, 525), 50, 0), ((46, .getfield 298, 3, 11, 10, 0, 722), 50, 0)],
  [((49, .putfield 280, 3, 10, 7, 0, 716), 51, 0), ((52, .aload_n 0, 1, 0, 0, 0, 0), 5, 0), ((53, .aload_n 0, 1, 0, 0, 0, 0), 5, 0), ((54, .getfield 32, 3, 10, 3, 20, 525), 50, 0), ((57, .getfield 301, 3, 11, 11, 0, 723), 50, 0), ((60, .putfield 283, 3, 10, 8, 0, 717), 51, 0), ((63, .aload_n 0, 1, 0, 0, 0, 0), 5, 0)],
  [((64, .invokevirtual 93, 3, 77, 1, 10, 541), 56, 0), ((67, .return_, 1, 0, 0, 0, 0), 1000, 0)]])
def al_mX4_fieldName : ev_MeK := (al_yX4_fieldName, prog_6_method_32_code, 2, none, [[((0, .aload_n 0, 1, 0, 0, 0, 0), 5, 0), ((1, .invokevirtual 304, 3, 136, 1, 10, 724), 56, 0), ((4, .aload_n 0, 1, 0, 0, 0, 0), 5, 0), ((5, .getfield 15, 3, 10, 0, 20, 518), 50, 0), ((8, .getfield 121, 3, 9, 6, 0, 674), 50, 0), ((11, .istore_n 1, 1, 0, 0, 0, 0), 7, 1), ((12, .aload_n 0, 1, 0, 0, 0, 0), 5, 0), ((13, .invokevirtual 93, 3, 77, 1, 10, 541), 56, 0)],
  [((16, .aload_n 0, 1, 0, 0, 0, 0), 5, 0), ((17, .invokevirtual 307, 3, 135, 1, 10, 725), 56, 0), ((20, .aload_n 0, 1, 0, 0, 0, 0), 5, 0), ((21, .invokevirtual 93, 3, 77, 1, 10, 541), 56, 0), ((24, .aload_n 0, 1, 0, 0, 0, 0), 5, 0), ((25, .bipush 11, 2, 11, 0, 0, 0), 13, 0), ((27, .putfield 280, 3, 10, 7, 0, 716), 51, 0), ((30, .aload_n 0, 1, 0, 0, 0, 0), 5, 0), ((31, .aload_n 0, 1, 0, 0, 0, 0), 5, 0)],
  [((32, .getfield 32, 3, 10, 3, 20, 525), 50, 0), ((35, .invokevirtual 109, 3, 84, 1, 11, 546), 56, 0), ((38, .iconst 2, 1, 2, 0, 0, 0), 12, 0), ((39, .isub, 1, 0, 0, 0, 0), 17, 0), ((40, .putfield 283, 3, 10, 8, 0, 717), 51, 0), ((43, .aload_n 0, 1, 0, 0, 0, 0), 5, 0), ((44, .iload_n 1, 1, 0, 0, 0, 0), 1, 1), ((45, .putfield 286, 3, 10, 9, 0, 718), 51, 0)],
  [((48, .return_, 1, 0, 0, 0, 0), 1000, 0)]])
def al_mX4_keyName : ev_MeK := (al_yX4_keyName, prog_6_method_33_code, 1, none, [[((0, .aload_n 0, 1, 0, 0, 0, 0), 5, 0), ((1, .getfield 15, 3, 10, 0, 20, 518), 50, 0), ((4, .getfield 103, 3, 9, 4, 0, 544), 50, 0), ((7, .iconst 2, 1, 2, 0, 0, 0), 12, 0), ((8, .if_icmp .ne 27, 3, 35, 0, 0, 0), 45, 0), ((11, .aload_n 0, 1, 0, 0, 0, 0), 5, 0), ((12, .iconst 4, 1, 4, 0, 0, 0), 12, 0), ((13, .aload_n 0, 1, 0, 0, 0, 0), 5, 0), ((14, .getfield 15, 3, 10, 0, 20, 518), 50, 0)],
  [((17, .getfield 236, 3, 9, 8, 10, 703), 50, 0), ((20, .l2i, 1, 0, 0, 0, 0), 33, 0), ((21, .aload_n 0, 1, 0, 0, 0, 0), 5, 0), ((22, .getfield 15, 3, 10, 0, 20, 518), 50, 0), ((25, .getfield 121, 3, 9, 6, 0, 674), 50, 0), ((28, .iconst 1, 1, 1, 0, 0, 0), 12, 0), ((29, .invokevirtual 260, 3, 112, 5, 10, 710), 56, 0)],
  [((32, .goto 8, 3, 40, 0, 0, 0), 37, 0), ((35, .aload_n 0, 1, 0, 0, 0, 0), 5, 0), ((36, .iconst 2, 1, 2, 0, 0, 0), 12, 0), ((37, .invokevirtual 106, 3, 109, 2, 10, 545), 56, 0), ((40, .return_, 1, 0, 0, 0, 0), 1000, 0)]])
def al_mX4_readTail : ev_MeK := (al_yX4_readTail, prog_6_method_34_code, 1, none, [[((0, .aload_n 0, 1, 0, 0, 0, 0), 5, 0), ((1, .getfield 280, 3, 10, 7, 0, 716), 50, 0), ((4, .bipush 11, 2, 11, 0, 0, 0), 13, 0), ((6, .if_icmp .ne 18, 3, 24, 0, 0, 0), 45, 0), ((9, .aload_n 0, 1, 0, 0, 0, 0), 5, 0), ((10, .bipush 11, 2, 11, 0, 0, 0), 13, 0), ((12, .iconst 0, 1, 0, 0, 0, 0), 12, 0), ((13, .aload_n 0, 1, 0, 0, 0, 0), 5, 0), ((14, .getfield 286, 3, 10, 9, 0, 718), 50, 0)],
  [((17, .iconst (-1), 1, 4294967295, 0, 0, 0), 12, 0), ((18, .invokevirtual 260, 3, 112, 5, 10, 710), 56, 0), ((21, .goto 24, 3, 45, 0, 0, 0), 37, 0), ((24, .aload_n 0, 1, 0, 0, 0, 0), 5, 0), ((25, .getfield 280, 3, 10, 7, 0, 716), 50, 0), ((28, .ifCond .lt 17, 3, 45, 0, 0, 0), 40, 0), ((31, .aload_n 0, 1, 0, 0, 0, 0), 5, 0)],
  [((32, .aload_n 0, 1, 0, 0, 0, 0), 5, 0), ((33, .getfield 280, 3, 10, 7, 0, 716), 50, 0), ((36, .aload_n 0, 1, 0, 0, 0, 0), 5, 0), ((37, .getfield 283, 3, 10, 8, 0, 717), 50, 0), ((40, .iconst 0, 1, 0, 0, 0, 0), 12, 0), ((41, .iconst 1, 1, 1, 0, 0, 0), 12, 0), ((42, .invokevirtual 260, 3, 112, 5, 10, 710), 56, 0), ((45, .aload_n 0, 1, 0, 0, 0, 0), 5, 0), ((46, .iconst (-1), 1, 4294967295, 0, 0, 0), 12, 0), ((47, .putfield 280, 3, 10, 7, 0, 716), 51, 0)],
  [((50, .return_, 1, 0, 0, 0, 0), 1000, 0)]])
def al_mX4_chain : ev_MeK := (al_yX4_chain, prog_6_method_35_code, 3, none, [[((0, .aload_n 0, 1, 0, 0, 0, 0), 5, 0), ((1, .getfield 15, 3, 10, 0, 20, 518), 50, 0), ((4, .getfield 103, 3, 9, 4, 0, 544), 50, 0), ((7, .bipush 51, 2, 51, 0, 0, 0), 13, 0), ((9, .if_icmp .ne 30, 3, 39, 0, 0, 0), 45, 0), ((12, .aload_n 0, 1, 0, 0, 0, 0), 5, 0), ((13, .invokevirtual 93, 3, 77, 1, 10, 541), 56, 0)],
  [((16, .aload_n 0, 1, 0, 0, 0, 0), 5, 0), ((17, .iconst 0, 1, 0, 0, 0, 0), 12, 0), ((18, .iload_n 1, 1, 0, 0, 0, 0), 1, 1), ((19, .iconst 1, 1, 1, 0, 0, 0), 12, 0), ((20, .iadd, 1, 0, 0, 0, 0), 16, 0), ((21, .invokevirtual 222, 3, 148, 3, 10, 699), 56, 0), ((24, .pop, 1, 0, 0, 0, 0), 58, 0), ((25, .aload_n 0, 1, 0, 0, 0, 0), 5, 0), ((26, .bipush 52, 2, 52, 0, 0, 0), 13, 0), ((28, .invokevirtual 180, 3, 110, 2, 10, 685), 56, 0), ((31, .aload_n 0, 1, 0, 0, 0, 0), 5, 0)],
  [((32, .iconst (-1), 1, 4294967295, 0, 0, 0), 12, 0), ((33, .putfield 280, 3, 10, 7, 0, 716), 51, 0), ((36, .goto 7, 3, 43, 0, 0, 0), 37, 0), ((39, .aload_n 0, 1, 0, 0, 0, 0), 5, 0), ((40, .invokevirtual 274, 3, 133, 1, 10, 714), 56, 0), ((43, .iconst 0, 1, 0, 0, 0, 0), 12, 0), ((44, .istore_n 2, 1, 0, 0, 0, 0), 7, 2), ((45, .iload_n 2, 1, 0, 0, 0, 0), 1, 2), ((46, .sipush 1500, 3, 1500, 0, 0, 0), 14, 0)],
  [((49, .if_icmp .gt 17, 3, 66, 0, 0, 0), 48, 0), ((52, .aload_n 0, 1, 0, 0, 0, 0), 5, 0), ((53, .iload_n 1, 1, 0, 0, 0, 0), 1, 1), ((54, .invokevirtual 310, 3, 138, 2, 10, 726), 56, 0), ((57, .ifCond .eq 9, 3, 66, 0, 0, 0), 38, 0), ((60, .iinc 2 1, 3, 1, 0, 0, 0), 36, 2), ((63, .goto (-18), 3, 45, 0, 0, 0), 37, 0)],
  [((66, .return_, 1, 0, 0, 0, 0), 1000, 0)]])
def al_mX4_link : ev_MeK := (al_yX4_link, prog_6_method_36_code, 3, (some .boolean), [[((0, .aload_n 0, 1, 0, 0, 0, 0), 5, 0), ((1, .getfield 15, 3, 10, 0, 20, 518), 50, 0), ((4, .getfield 121, 3, 9, 6, 0, 674), 50, 0), ((7, .istore_n 2, 1, 0, 0, 0, 0), 7, 2), ((8, .aload_n 0, 1, 0, 0, 0, 0), 5, 0), ((9, .getfield 15, 3, 10, 0, 20, 518), 50, 0), ((12, .getfield 103, 3, 9, 4, 0, 544), 50, 0), ((15, .lookupswitch 191 #[(4, 171), (51, 171), (53, 171), (55, 63), (58, 112), (60, 57)], 57, 0, 0, 0, 0), 59, 0)],
  [],
  [],
  [],
  [((72, .aload_n 0, 1, 0, 0, 0, 0), 5, 0), ((73, .invokevirtual 277, 3, 134, 1, 10, 715), 56, 0), ((76, .iconst 1, 1, 1, 0, 0, 0), 12, 0), ((77, .ireturn, 1, 0, 0, 0, 0), 1000, 0), ((78, .aload_n 0, 1, 0, 0, 0, 0), 5, 0), ((79, .invokevirtual 304, 3, 136, 1, 10, 724), 56, 0)],
  [((82, .aload_n 0, 1, 0, 0, 0, 0), 5, 0), ((83, .invokevirtual 93, 3, 77, 1, 10, 541), 56, 0), ((86, .aload_n 0, 1, 0, 0, 0, 0), 5, 0), ((87, .iconst 0, 1, 0, 0, 0, 0), 12, 0), ((88, .iload_n 1, 1, 0, 0, 0, 0), 1, 1), ((89, .iconst 1, 1, 1, 0, 0, 0), 12, 0), ((90, .iadd, 1, 0, 0, 0, 0), 16, 0), ((91, .invokevirtual 222, 3, 148, 3, 10, 699), 56, 0), ((94, .pop, 1, 0, 0, 0, 0), 58, 0), ((95, .aload_n 0, 1, 0, 0, 0, 0), 5, 0)],
  [((96, .bipush 56, 2, 56, 0, 0, 0), 13, 0), ((98, .invokevirtual 180, 3, 110, 2, 10, 685), 56, 0), ((101, .aload_n 0, 1, 0, 0, 0, 0), 5, 0), ((102, .bipush 11, 2, 11, 0, 0, 0), 13, 0), ((104, .putfield 280, 3, 10, 7, 0, 716), 51, 0), ((107, .aload_n 0, 1, 0, 0, 0, 0), 5, 0), ((108, .aload_n 0, 1, 0, 0, 0, 0), 5, 0), ((109, .getfield 32, 3, 10, 3, 20, 525), 50, 0)],
  [((112, .invokevirtual 109, 3, 84, 1, 11, 546), 56, 0), ((115, .iconst 2, 1, 2, 0, 0, 0), 12, 0), ((116, .isub, 1, 0, 0, 0, 0), 17, 0), ((117, .putfield 283, 3, 10, 8, 0, 717), 51, 0), ((120, .aload_n 0, 1, 0, 0, 0, 0), 5, 0), ((121, .iload_n 2, 1, 0, 0, 0, 0), 1, 2), ((122, .putfield 286, 3, 10, 9, 0, 718), 51, 0), ((125, .iconst 1, 1, 1, 0, 0, 0), 12, 0), ((126, .ireturn, 1, 0, 0, 0, 0), 1000, 0), ((127, .aload_n 0, 1, 0, 0, 0, 0), 5, 0)],
  [((128, .invokevirtual 304, 3, 136, 1, 10, 724), 56, 0), ((131, .aload_n 0, 1, 0, 0, 0, 0), 5, 0), ((132, .invokevirtual 93, 3, 77, 1, 10, 541), 56, 0), ((135, .aload_n 0, 1, 0, 0, 0, 0), 5, 0), ((136, .bipush 29, 2, 29, 0, 0, 0), 13, 0), ((138, .iconst 0, 1, 0, 0, 0, 0), 12, 0), ((139, .iload_n 2, 1, 0, 0, 0, 0), 1, 2), ((140, .iconst 1, 1, 1, 0, 0, 0), 12, 0), ((141, .invokevirtual 260, 3, 112, 5, 10, 710), 56, 0)],
  [((144, .aload_n 0, 1, 0, 0, 0, 0), 5, 0), ((145, .invokevirtual 307, 3, 135, 1, 10, 725), 56, 0), ((148, .aload_n 0, 1, 0, 0, 0, 0), 5, 0), ((149, .invokevirtual 93, 3, 77, 1, 10, 541), 56, 0), ((152, .aload_n 0, 1, 0, 0, 0, 0), 5, 0), ((153, .bipush 11, 2, 11, 0, 0, 0), 13, 0), ((155, .iconst 0, 1, 0, 0, 0, 0), 12, 0), ((156, .iload_n 2, 1, 0, 0, 0, 0), 1, 2), ((157, .iconst (-1), 1, 4294967295, 0, 0, 0), 12, 0), ((158, .invokevirtual 260, 3, 112, 5, 10, 710), 56, 0)],
  [((161, .aload_n 0, 1, 0, 0, 0, 0), 5, 0), ((162, .bipush 30, 2, 30, 0, 0, 0), 13, 0), ((164, .iconst 0, 1, 0, 0, 0, 0), 12, 0), ((165, .iload_n 2, 1, 0, 0, 0, 0), 1, 2), ((166, .iconst 0, 1, 0, 0, 0, 0), 12, 0), ((167, .invokevirtual 260, 3, 112, 5, 10, 710), 56, 0), ((170, .aload_n 0, 1, 0, 0, 0, 0), 5, 0), ((171, .aload_n 0, 1, 0, 0, 0, 0), 5, 0), ((172, .getfield 32, 3, 10, 3, 20, 525), 50, 0), ((175, .invokevirtual 109, 3, 84, 1, 11, 546), 56, 0)],
  [((178, .iconst 2, 1, 2, 0, 0, 0), 12, 0), ((179, .isub, 1, 0, 0, 0, 0), 17, 0), ((180, .iload_n 1, 1, 0, 0, 0, 0), 1, 1), ((181, .invokevirtual 313, 3, 139, 3, 10, 727), 56, 0), ((184, .iconst 1, 1, 1, 0, 0, 0), 12, 0), ((185, .ireturn, 1, 0, 0, 0, 0), 1000, 0), ((186, .aload_n 0, 1, 0, 0, 0, 0), 5, 0), ((187, .invokevirtual 304, 3, 136, 1, 10, 724), 56, 0), ((190, .aload_n 0, 1, 0, 0, 0, 0), 5, 0), ((191, .aload_n 0, 1, 0, 0, 0, 0), 5, 0)],
  [((192, .getfield 32, 3, 10, 3, 20, 525), 50, 0), ((195, .invokevirtual 109, 3, 84, 1, 11, 546), 56, 0), ((198, .iconst 1, 1, 1, 0, 0, 0), 12, 0), ((199, .isub, 1, 0, 0, 0, 0), 17, 0), ((200, .iload_n 1, 1, 0, 0, 0, 0), 1, 1), ((201, .invokevirtual 313, 3, 139, 3, 10, 727), 56, 0), ((204, .iconst 1, 1, 1, 0, 0, 0), 12, 0), ((205, .ireturn, 1, 0, 0, 0, 0), 1000, 0), ((206, .iconst 0, 1, 0, 0, 0, 0), 12, 0), ((207, .ireturn, 1, 0, 0, 0, 0), 1000, 0)]])
def al_mX4_given : ev_MeK := (al_yX4_given, prog_6_method_37_code, 4, none, [[((0, .aload_n 0, 1, 0, 0, 0, 0), 5, 0), ((1, .getfield 15, 3, 10, 0, 20, 518), 50, 0), ((4, .getfield 121, 3, 9, 6, 0, 674), 50, 0), ((7, .istore_n 3, 1, 0, 0, 0, 0), 7, 3), ((8, .aload_n 0, 1, 0, 0, 0, 0), 5, 0), ((9, .getfield 15, 3, 10, 0, 20, 518), 50, 0), ((12, .getfield 103, 3, 9, 4, 0, 544), 50, 0), ((15, .iconst 4, 1, 4, 0, 0, 0), 12, 0)],
  [((16, .if_icmp .ne 25, 3, 41, 0, 0, 0), 45, 0), ((19, .aload_n 0, 1, 0, 0, 0, 0), 5, 0), ((20, .iconst 4, 1, 4, 0, 0, 0), 12, 0), ((21, .aload_n 0, 1, 0, 0, 0, 0), 5, 0), ((22, .getfield 15, 3, 10, 0, 20, 518), 50, 0), ((25, .getfield 236, 3, 9, 8, 10, 703), 50, 0), ((28, .l2i, 1, 0, 0, 0, 0), 33, 0), ((29, .iload_n 3, 1, 0, 0, 0, 0), 1, 3), ((30, .iconst 1, 1, 1, 0, 0, 0), 12, 0), ((31, .invokevirtual 260, 3, 112, 5, 10, 710), 56, 0)],
  [((34, .aload_n 0, 1, 0, 0, 0, 0), 5, 0), ((35, .invokevirtual 93, 3, 77, 1, 10, 541), 56, 0), ((38, .goto 55, 3, 93, 0, 0, 0), 37, 0), ((41, .aload_n 0, 1, 0, 0, 0, 0), 5, 0), ((42, .getfield 15, 3, 10, 0, 20, 518), 50, 0), ((45, .getfield 103, 3, 9, 4, 0, 544), 50, 0)],
  [((48, .bipush 53, 2, 53, 0, 0, 0), 13, 0), ((50, .if_icmp .ne 11, 3, 61, 0, 0, 0), 45, 0), ((53, .aload_n 0, 1, 0, 0, 0, 0), 5, 0), ((54, .iload_n 2, 1, 0, 0, 0, 0), 1, 2), ((55, .invokevirtual 316, 3, 151, 2, 10, 728), 56, 0), ((58, .goto 35, 3, 93, 0, 0, 0), 37, 0), ((61, .aload_n 0, 1, 0, 0, 0, 0), 5, 0), ((62, .bipush 51, 2, 51, 0, 0, 0), 13, 0)],
  [((64, .invokevirtual 180, 3, 110, 2, 10, 685), 56, 0), ((67, .aload_n 0, 1, 0, 0, 0, 0), 5, 0), ((68, .getfield 15, 3, 10, 0, 20, 518), 50, 0), ((71, .getfield 103, 3, 9, 4, 0, 544), 50, 0), ((74, .bipush 52, 2, 52, 0, 0, 0), 13, 0), ((76, .if_icmp .eq 11, 3, 87, 0, 0, 0), 44, 0), ((79, .aload_n 0, 1, 0, 0, 0, 0), 5, 0)],
  [((80, .iload_n 2, 1, 0, 0, 0, 0), 1, 2), ((81, .iconst 1, 1, 1, 0, 0, 0), 12, 0), ((82, .iadd, 1, 0, 0, 0, 0), 16, 0), ((83, .invokevirtual 210, 3, 144, 2, 10, 695), 56, 0), ((86, .pop, 1, 0, 0, 0, 0), 58, 0), ((87, .aload_n 0, 1, 0, 0, 0, 0), 5, 0), ((88, .bipush 52, 2, 52, 0, 0, 0), 13, 0), ((90, .invokevirtual 180, 3, 110, 2, 10, 685), 56, 0), ((93, .aload_n 0, 1, 0, 0, 0, 0), 5, 0), ((94, .bipush 19, 2, 19, 0, 0, 0), 13, 0)],
  [((96, .iload_n 1, 1, 0, 0, 0, 0), 1, 1), ((97, .iconst 1, 1, 1, 0, 0, 0), 12, 0), ((98, .iload_n 3, 1, 0, 0, 0, 0), 1, 3), ((99, .invokevirtual 96, 3, 78, 5, 10, 542), 56, 0), ((102, .pop, 1, 0, 0, 0, 0), 58, 0), ((103, .aload_n 0, 1, 0, 0, 0, 0), 5, 0), ((104, .getfield 32, 3, 10, 3, 20, 525), 50, 0), ((107, .iload_n 1, 1, 0, 0, 0, 0), 1, 1), ((108, .iconst 1, 1, 1, 0, 0, 0), 12, 0), ((109, .iadd, 1, 0, 0, 0, 0), 16, 0), ((110, .invokevirtual 148, 3, 162, 2, 11, 678), 56, 0)],
  [((113, .aload_n 0, 1, 0, 0, 0, 0), 5, 0), ((114, .bipush (-2), 2, 4294967294, 0, 0, 0), 13, 0), ((116, .putfield 280, 3, 10, 7, 0, 716), 51, 0), ((119, .return_, 1, 0, 0, 0, 0), 1000, 0)]])
def al_mX4_chainStatement : ev_MeK := (al_yX4_chainStatement, prog_6_method_38_code, 3, none, [[((0, .aload_n 0, 1, 0, 0, 0, 0), 5, 0), ((1, .getfield 32, 3, 10, 3, 20, 525), 50, 0), ((4, .invokevirtual 109, 3, 84, 1, 11, 546), 56, 0), ((7, .istore_n 2, 1, 0, 0, 0, 0), 7, 2), ((8, .aload_n 0, 1, 0, 0, 0, 0), 5, 0), ((9, .iload_n 1, 1, 0, 0, 0, 0), 1, 1), ((10, .invokevirtual 319, 3, 137, 2, 10, 729), 56, 0), ((13, .aload_n 0, 1, 0, 0, 0, 0), 5, 0), ((14, .getfield 280, 3, 10, 7, 0, 716), 50, 0)],
  [((17, .bipush (-2), 2, 4294967294, 0, 0, 0), 13, 0), ((19, .if_icmp .ne 22, 3, 41, 0, 0, 0), 45, 0), ((22, .aload_n 0, 1, 0, 0, 0, 0), 5, 0), ((23, .getfield 19, 3, 10, 1, 20, 519), 50, 0), ((26, .iconst 0, 1, 0, 0, 0, 0), 12, 0), ((27, .invokevirtual 322, 3, 158, 2, 5, 730), 56, 0), ((30, .aload_n 0, 1, 0, 0, 0, 0), 5, 0), ((31, .getfield 32, 3, 10, 3, 20, 525), 50, 0)],
  [((34, .iload_n 2, 1, 0, 0, 0, 0), 1, 2), ((35, .invokevirtual 148, 3, 162, 2, 11, 678), 56, 0), ((38, .goto 9, 3, 47, 0, 0, 0), 37, 0), ((41, .aload_n 0, 1, 0, 0, 0, 0), 5, 0), ((42, .iload_n 1, 1, 0, 0, 0, 0), 1, 1), ((43, .iload_n 2, 1, 0, 0, 0, 0), 1, 2), ((44, .invokevirtual 325, 3, 141, 3, 10, 731), 56, 0), ((47, .return_, 1, 0, 0, 0, 0), 1000, 0)]])
def al_mX4_assignment : ev_MeK := (al_yX4_assignment, prog_6_method_39_code, 8, none, [[((0, .aload_n 0, 1, 0, 0, 0, 0), 5, 0), ((1, .getfield 70, 3, 10, 11, 0, 535), 50, 0), ((4, .istore_n 3, 1, 0, 0, 0, 0), 7, 3), ((5, .aload_n 0, 1, 0, 0, 0, 0), 5, 0), ((6, .invokevirtual 328, 3, 142, 1, 10, 732), 56, 0), ((9, .iconst 1, 1, 1, 0, 0, 0), 12, 0), ((10, .istore 4, 2, 0, 0, 0, 0), 6, 4), ((12, .iload 4, 2, 0, 0, 0, 0), 0, 4), ((14, .bipush 20, 2, 20, 0, 0, 0), 13, 0)],
  [((16, .if_icmp .gt 80, 3, 96, 0, 0, 0), 48, 0), ((19, .aload_n 0, 1, 0, 0, 0, 0), 5, 0), ((20, .getfield 15, 3, 10, 0, 20, 518), 50, 0), ((23, .getfield 103, 3, 9, 4, 0, 544), 50, 0), ((26, .bipush 59, 2, 59, 0, 0, 0), 13, 0), ((28, .if_icmp .ne 68, 3, 96, 0, 0, 0), 45, 0), ((31, .aload_n 0, 1, 0, 0, 0, 0), 5, 0)],
  [((32, .invokevirtual 93, 3, 77, 1, 10, 541), 56, 0), ((35, .aload_n 0, 1, 0, 0, 0, 0), 5, 0), ((36, .getfield 15, 3, 10, 0, 20, 518), 50, 0), ((39, .getfield 103, 3, 9, 4, 0, 544), 50, 0), ((42, .iconst 2, 1, 2, 0, 0, 0), 12, 0), ((43, .if_icmp .eq 23, 3, 66, 0, 0, 0), 44, 0), ((46, .aload_n 0, 1, 0, 0, 0, 0), 5, 0), ((47, .getfield 15, 3, 10, 0, 20, 518), 50, 0)],
  [((50, .getfield 103, 3, 9, 4, 0, 544), 50, 0), ((53, .bipush 51, 2, 51, 0, 0, 0), 13, 0), ((55, .if_icmp .eq 11, 3, 66, 0, 0, 0), 44, 0), ((58, .aload_n 0, 1, 0, 0, 0, 0), 5, 0), ((59, .iconst 2, 1, 2, 0, 0, 0), 12, 0), ((60, .invokevirtual 106, 3, 109, 2, 10, 545), 56, 0), ((63, .goto 27, 3, 90, 0, 0, 0), 37, 0)],
  [((66, .iload 4, 2, 0, 0, 0, 0), 0, 4), ((68, .bipush 20, 2, 20, 0, 0, 0), 13, 0), ((70, .if_icmp .ne 11, 3, 81, 0, 0, 0), 45, 0), ((73, .aload_n 0, 1, 0, 0, 0, 0), 5, 0), ((74, .iconst 3, 1, 3, 0, 0, 0), 12, 0), ((75, .invokevirtual 106, 3, 109, 2, 10, 545), 56, 0), ((78, .goto 12, 3, 90, 0, 0, 0), 37, 0)],
  [((81, .aload_n 0, 1, 0, 0, 0, 0), 5, 0), ((82, .iload_n 1, 1, 0, 0, 0, 0), 1, 1), ((83, .invokevirtual 319, 3, 137, 2, 10, 729), 56, 0), ((86, .aload_n 0, 1, 0, 0, 0, 0), 5, 0), ((87, .invokevirtual 328, 3, 142, 1, 10, 732), 56, 0), ((90, .iinc 4 1, 3, 1, 0, 0, 0), 36, 4), ((93, .goto (-81), 3, 12, 0, 0, 0), 37, 0)],
  [((96, .aload_n 0, 1, 0, 0, 0, 0), 5, 0), ((97, .getfield 70, 3, 10, 11, 0, 535), 50, 0), ((100, .iload_n 3, 1, 0, 0, 0, 0), 1, 3), ((101, .isub, 1, 0, 0, 0, 0), 17, 0), ((102, .iconst 3, 1, 3, 0, 0, 0), 12, 0), ((103, .idiv, 1, 0, 0, 0, 0), 58, 0), ((104, .istore 4, 2, 0, 0, 0, 0), 6, 4), ((106, .aload_n 0, 1, 0, 0, 0, 0), 5, 0), ((107, .getfield 15, 3, 10, 0, 20, 518), 50, 0), ((110, .getfield 121, 3, 9, 6, 0, 674), 50, 0)],
  [((113, .istore 5, 2, 0, 0, 0, 0), 6, 5), ((115, .aload_n 0, 1, 0, 0, 0, 0), 5, 0), ((116, .getfield 32, 3, 10, 3, 20, 525), 50, 0), ((119, .invokevirtual 109, 3, 84, 1, 11, 546), 56, 0), ((122, .istore 6, 2, 0, 0, 0, 0), 6, 6), ((124, .aload_n 0, 1, 0, 0, 0, 0), 5, 0), ((125, .bipush 49, 2, 49, 0, 0, 0), 13, 0), ((127, .invokevirtual 180, 3, 110, 2, 10, 685), 56, 0)],
  [((130, .aload_n 0, 1, 0, 0, 0, 0), 5, 0), ((131, .aload_n 0, 1, 0, 0, 0, 0), 5, 0), ((132, .iload_n 1, 1, 0, 0, 0, 0), 1, 1), ((133, .iconst 1, 1, 1, 0, 0, 0), 12, 0), ((134, .iadd, 1, 0, 0, 0, 0), 16, 0), ((135, .invokevirtual 210, 3, 144, 2, 10, 695), 56, 0), ((138, .iload 6, 2, 0, 0, 0, 0), 0, 6), ((140, .iload 4, 2, 0, 0, 0, 0), 0, 4), ((142, .iload 5, 2, 0, 0, 0, 0), 0, 5)],
  [((144, .invokevirtual 267, 3, 129, 5, 10, 712), 56, 0), ((147, .aload_n 0, 1, 0, 0, 0, 0), 5, 0), ((148, .getfield 70, 3, 10, 11, 0, 535), 50, 0), ((151, .iconst 3, 1, 3, 0, 0, 0), 12, 0), ((152, .isub, 1, 0, 0, 0, 0), 17, 0), ((153, .istore 7, 2, 0, 0, 0, 0), 6, 7), ((155, .iload 7, 2, 0, 0, 0, 0), 0, 7), ((157, .iload_n 3, 1, 0, 0, 0, 0), 1, 3), ((158, .if_icmp .lt 38, 3, 196, 0, 0, 0), 46, 0)],
  [((161, .aload_n 0, 1, 0, 0, 0, 0), 5, 0), ((162, .aload_n 0, 1, 0, 0, 0, 0), 5, 0), ((163, .getfield 11, 3, 10, 10, 20, 517), 50, 0), ((166, .iload 7, 2, 0, 0, 0, 0), 0, 7), ((168, .iaload, 1, 0, 0, 0, 0), 52, 0), ((169, .aload_n 0, 1, 0, 0, 0, 0), 5, 0), ((170, .getfield 11, 3, 10, 10, 20, 517), 50, 0), ((173, .iload 7, 2, 0, 0, 0, 0), 0, 7), ((175, .iconst 1, 1, 1, 0, 0, 0), 12, 0)],
  [((176, .iadd, 1, 0, 0, 0, 0), 16, 0), ((177, .iaload, 1, 0, 0, 0, 0), 52, 0), ((178, .aload_n 0, 1, 0, 0, 0, 0), 5, 0), ((179, .getfield 11, 3, 10, 10, 20, 517), 50, 0), ((182, .iload 7, 2, 0, 0, 0, 0), 0, 7), ((184, .iconst 2, 1, 2, 0, 0, 0), 12, 0), ((185, .iadd, 1, 0, 0, 0, 0), 16, 0), ((186, .iaload, 1, 0, 0, 0, 0), 52, 0), ((187, .invokevirtual 289, 3, 143, 4, 10, 719), 56, 0), ((190, .iinc 7 (-3), 3, 4294967293, 0, 0, 0), 36, 7)],
  [((193, .goto (-38), 3, 155, 0, 0, 0), 37, 0), ((196, .aload_n 0, 1, 0, 0, 0, 0), 5, 0), ((197, .iload_n 3, 1, 0, 0, 0, 0), 1, 3), ((198, .putfield 70, 3, 10, 11, 0, 535), 51, 0), ((201, .aload_n 0, 1, 0, 0, 0, 0), 5, 0), ((202, .iload_n 2, 1, 0, 0, 0, 0), 1, 2), ((203, .invokevirtual 292, 3, 132, 2, 10, 720), 56, 0), ((206, .return_, 1, 0, 0, 0, 0), 1000, 0)]])
def al_mX4_notePlace : ev_MeK := (al_yX4_notePlace, prog_6_method_40_code, 2, none, [[((0, .aload_n 0, 1, 0, 0, 0, 0), 5, 0), ((1, .getfield 15, 3, 10, 0, 20, 518), 50, 0), ((4, .getfield 103, 3, 9, 4, 0, 544), 50, 0), ((7, .bipush 49, 2, 49, 0, 0, 0), 13, 0), ((9, .if_icmp .eq 15, 3, 24, 0, 0, 0), 44, 0), ((12, .aload_n 0, 1, 0, 0, 0, 0), 5, 0), ((13, .getfield 15, 3, 10, 0, 20, 518), 50, 0)],
  [((16, .getfield 103, 3, 9, 4, 0, 544), 50, 0), ((19, .bipush 59, 2, 59, 0, 0, 0), 13, 0), ((21, .if_icmp .ne 7, 3, 28, 0, 0, 0), 45, 0), ((24, .iconst 1, 1, 1, 0, 0, 0), 12, 0), ((25, .goto 4, 3, 29, 0, 0, 0), 37, 0), ((28, .iconst 0, 1, 0, 0, 0, 0), 12, 0), ((29, .istore_n 1, 1, 0, 0, 0, 0), 7, 1), ((30, .iload_n 1, 1, 0, 0, 0, 0), 1, 1), ((31, .ifCond .eq 24, 3, 55, 0, 0, 0), 38, 0)],
  [((34, .aload_n 0, 1, 0, 0, 0, 0), 5, 0), ((35, .getfield 280, 3, 10, 7, 0, 716), 50, 0), ((38, .ifCond .lt 17, 3, 55, 0, 0, 0), 40, 0), ((41, .aload_n 0, 1, 0, 0, 0, 0), 5, 0), ((42, .getfield 70, 3, 10, 11, 0, 535), 50, 0), ((45, .iconst 3, 1, 3, 0, 0, 0), 12, 0), ((46, .iadd, 1, 0, 0, 0, 0), 16, 0), ((47, .aload_n 0, 1, 0, 0, 0, 0), 5, 0)],
  [((48, .getfield 11, 3, 10, 10, 20, 517), 50, 0), ((51, .arraylength, 1, 0, 0, 0, 0), 58, 0), ((52, .if_icmp .le 9, 3, 61, 0, 0, 0), 49, 0), ((55, .aload_n 0, 1, 0, 0, 0, 0), 5, 0), ((56, .iconst 2, 1, 2, 0, 0, 0), 12, 0), ((57, .invokevirtual 106, 3, 109, 2, 10, 545), 56, 0), ((60, .return_, 1, 0, 0, 0, 0), 1000, 0), ((61, .aload_n 0, 1, 0, 0, 0, 0), 5, 0), ((62, .getfield 11, 3, 10, 10, 20, 517), 50, 0)],
  [((65, .aload_n 0, 1, 0, 0, 0, 0), 5, 0), ((66, .getfield 70, 3, 10, 11, 0, 535), 50, 0), ((69, .aload_n 0, 1, 0, 0, 0, 0), 5, 0), ((70, .getfield 280, 3, 10, 7, 0, 716), 50, 0), ((73, .iastore, 1, 0, 0, 0, 0), 53, 0), ((74, .aload_n 0, 1, 0, 0, 0, 0), 5, 0), ((75, .getfield 11, 3, 10, 10, 20, 517), 50, 0), ((78, .aload_n 0, 1, 0, 0, 0, 0), 5, 0), ((79, .getfield 70, 3, 10, 11, 0, 535), 50, 0)],
  [((82, .iconst 1, 1, 1, 0, 0, 0), 12, 0), ((83, .iadd, 1, 0, 0, 0, 0), 16, 0), ((84, .aload_n 0, 1, 0, 0, 0, 0), 5, 0), ((85, .getfield 283, 3, 10, 8, 0, 717), 50, 0), ((88, .iastore, 1, 0, 0, 0, 0), 53, 0), ((89, .aload_n 0, 1, 0, 0, 0, 0), 5, 0), ((90, .getfield 11, 3, 10, 10, 20, 517), 50, 0), ((93, .aload_n 0, 1, 0, 0, 0, 0), 5, 0), ((94, .getfield 70, 3, 10, 11, 0, 535), 50, 0)],
  [((97, .iconst 2, 1, 2, 0, 0, 0), 12, 0), ((98, .iadd, 1, 0, 0, 0, 0), 16, 0), ((99, .aload_n 0, 1, 0, 0, 0, 0), 5, 0), ((100, .getfield 286, 3, 10, 9, 0, 718), 50, 0), ((103, .iastore, 1, 0, 0, 0, 0), 53, 0), ((104, .aload_n 0, 1, 0, 0, 0, 0), 5, 0), ((105, .dup, 1, 0, 0, 0, 0), 35, 0), ((106, .getfield 70, 3, 10, 11, 0, 535), 50, 0), ((109, .iconst 3, 1, 3, 0, 0, 0), 12, 0), ((110, .iadd, 1, 0, 0, 0, 0), 16, 0), ((111, .putfield 70, 3, 10, 11, 0, 535), 51, 0)],
  [((114, .return_, 1, 0, 0, 0, 0), 1000, 0)]])
def al_mX4_assign : ev_MeK := (al_yX4_assign, prog_6_method_41_code, 4, none, [[((0, .iload_n 1, 1, 0, 0, 0, 0), 1, 1), ((1, .bipush 11, 2, 11, 0, 0, 0), 13, 0), ((3, .if_icmp .ne 15, 3, 18, 0, 0, 0), 45, 0), ((6, .aload_n 0, 1, 0, 0, 0, 0), 5, 0), ((7, .bipush 12, 2, 12, 0, 0, 0), 13, 0), ((9, .iload_n 2, 1, 0, 0, 0, 0), 1, 2), ((10, .iload_n 3, 1, 0, 0, 0, 0), 1, 3), ((11, .iconst (-1), 1, 4294967295, 0, 0, 0), 12, 0), ((12, .invokevirtual 260, 3, 112, 5, 10, 710), 56, 0), ((15, .goto 13, 3, 28, 0, 0, 0), 37, 0)],
  [((18, .aload_n 0, 1, 0, 0, 0, 0), 5, 0), ((19, .iload_n 1, 1, 0, 0, 0, 0), 1, 1), ((20, .iconst 1, 1, 1, 0, 0, 0), 12, 0), ((21, .iadd, 1, 0, 0, 0, 0), 16, 0), ((22, .iload_n 2, 1, 0, 0, 0, 0), 1, 2), ((23, .iload_n 3, 1, 0, 0, 0, 0), 1, 3), ((24, .iconst (-1), 1, 4294967295, 0, 0, 0), 12, 0), ((25, .invokevirtual 260, 3, 112, 5, 10, 710), 56, 0), ((28, .return_, 1, 0, 0, 0, 0), 1000, 0)]])
def al_mX4_row : ev_MeK := (al_yX4_row, prog_6_method_42_code, 4, (some .int), [[((0, .iconst 0, 1, 0, 0, 0, 0), 12, 0), ((1, .istore_n 2, 1, 0, 0, 0, 0), 7, 2), ((2, .iconst 0, 1, 0, 0, 0, 0), 12, 0), ((3, .istore_n 3, 1, 0, 0, 0, 0), 7, 3), ((4, .iload_n 3, 1, 0, 0, 0, 0), 1, 3), ((5, .ifCond .le 7, 3, 12, 0, 0, 0), 43, 0), ((8, .aload_n 0, 1, 0, 0, 0, 0), 5, 0), ((9, .invokevirtual 93, 3, 77, 1, 10, 541), 56, 0), ((12, .iload_n 3, 1, 0, 0, 0, 0), 1, 3), ((13, .bipush 15, 2, 15, 0, 0, 0), 13, 0), ((15, .if_icmp .ne 15, 3, 30, 0, 0, 0), 45, 0)],
  [((18, .aload_n 0, 1, 0, 0, 0, 0), 5, 0), ((19, .invokevirtual 207, 3, 114, 1, 10, 694), 56, 0), ((22, .ifCond .eq 8, 3, 30, 0, 0, 0), 38, 0), ((25, .aload_n 0, 1, 0, 0, 0, 0), 5, 0), ((26, .iconst 3, 1, 3, 0, 0, 0), 12, 0), ((27, .invokevirtual 106, 3, 109, 2, 10, 545), 56, 0), ((30, .aload_n 0, 1, 0, 0, 0, 0), 5, 0), ((31, .iconst 0, 1, 0, 0, 0, 0), 12, 0)],
  [((32, .iload_n 1, 1, 0, 0, 0, 0), 1, 1), ((33, .invokevirtual 222, 3, 148, 3, 10, 699), 56, 0), ((36, .istore_n 2, 1, 0, 0, 0, 0), 7, 2), ((37, .iinc 3 1, 3, 1, 0, 0, 0), 36, 3), ((40, .iload_n 3, 1, 0, 0, 0, 0), 1, 3), ((41, .bipush 15, 2, 15, 0, 0, 0), 13, 0), ((43, .if_icmp .gt 15, 3, 58, 0, 0, 0), 48, 0), ((46, .aload_n 0, 1, 0, 0, 0, 0), 5, 0), ((47, .getfield 15, 3, 10, 0, 20, 518), 50, 0)],
  [((50, .getfield 103, 3, 9, 4, 0, 544), 50, 0), ((53, .bipush 59, 2, 59, 0, 0, 0), 13, 0), ((55, .if_icmp .eq (-51), 3, 4, 0, 0, 0), 44, 0), ((58, .iload_n 2, 1, 0, 0, 0, 0), 1, 2), ((59, .ifCond .eq 11, 3, 70, 0, 0, 0), 38, 0), ((62, .aload_n 0, 1, 0, 0, 0, 0), 5, 0), ((63, .getfield 19, 3, 10, 1, 20, 519), 50, 0)],
  [((66, .iconst (-1), 1, 4294967295, 0, 0, 0), 12, 0), ((67, .invokevirtual 322, 3, 158, 2, 5, 730), 56, 0), ((70, .iload_n 2, 1, 0, 0, 0, 0), 1, 2), ((71, .ifCond .eq 11, 3, 82, 0, 0, 0), 38, 0), ((74, .iload_n 3, 1, 0, 0, 0, 0), 1, 3), ((75, .iconst 2, 1, 2, 0, 0, 0), 12, 0), ((76, .imul, 1, 0, 0, 0, 0), 18, 0), ((77, .iconst 1, 1, 1, 0, 0, 0), 12, 0), ((78, .iadd, 1, 0, 0, 0, 0), 16, 0), ((79, .goto 6, 3, 85, 0, 0, 0), 37, 0)],
  [((82, .iload_n 3, 1, 0, 0, 0, 0), 1, 3), ((83, .iconst 2, 1, 2, 0, 0, 0), 12, 0), ((84, .imul, 1, 0, 0, 0, 0), 18, 0), ((85, .ireturn, 1, 0, 0, 0, 0), 1000, 0)]])
def al_mX4_strength : ev_MeK := (al_yX4_strength, prog_6_method_43_code, 1, (some .int), [[((0, .aload_n 0, 1, 0, 0, 0, 0), 5, 0), ((1, .getfield 15, 3, 10, 0, 20, 518), 50, 0), ((4, .getfield 103, 3, 9, 4, 0, 544), 50, 0), ((7, .tableswitch 278 10 69 #[255, 278, 278, 278, 278, 278, 278, 278, 278, 278, 278, 278, 278, 278, 253, 278, 278, 278, 278, 278, 278, 278, 278, 278, 278, 278, 278, 278, 278, 278, 272, 272, 275, 275, 263, 259, 261, 257, 257, 278, 278, 278, 278, 278, 278, 278, 278, 278, 278, 278, 278, 275, 266, 266, 269, 278, 257, 257, 257, 257], 253, 0, 0, 0, 0), 58, 0)],
  [],
  [],
  [],
  [],
  [],
  [],
  [],
  [],
  [],
  [],
  [],
  [],
  [],
  [],
  [],
  [((260, .iconst 1, 1, 1, 0, 0, 0), 12, 0), ((261, .ireturn, 1, 0, 0, 0, 0), 1000, 0), ((262, .iconst 2, 1, 2, 0, 0, 0), 12, 0), ((263, .ireturn, 1, 0, 0, 0, 0), 1000, 0), ((264, .iconst 3, 1, 3, 0, 0, 0), 12, 0), ((265, .ireturn, 1, 0, 0, 0, 0), 1000, 0), ((266, .iconst 4, 1, 4, 0, 0, 0), 12, 0), ((267, .ireturn, 1, 0, 0, 0, 0), 1000, 0), ((268, .iconst 5, 1, 5, 0, 0, 0), 12, 0), ((269, .ireturn, 1, 0, 0, 0, 0), 1000, 0), ((270, .bipush 6, 2, 6, 0, 0, 0), 13, 0)],
  [((272, .ireturn, 1, 0, 0, 0, 0), 1000, 0), ((273, .bipush 7, 2, 7, 0, 0, 0), 13, 0), ((275, .ireturn, 1, 0, 0, 0, 0), 1000, 0), ((276, .bipush 8, 2, 8, 0, 0, 0), 13, 0), ((278, .ireturn, 1, 0, 0, 0, 0), 1000, 0), ((279, .bipush 9, 2, 9, 0, 0, 0), 13, 0), ((281, .ireturn, 1, 0, 0, 0, 0), 1000, 0), ((282, .bipush 10, 2, 10, 0, 0, 0), 13, 0), ((284, .ireturn, 1, 0, 0, 0, 0), 1000, 0), ((285, .iconst 0, 1, 0, 0, 0, 0), 12, 0), ((286, .ireturn, 1, 0, 0, 0, 0), 1000, 0)]])
def al_mX4_unary : ev_MeK := (al_yX4_unary, prog_6_method_44_code, 1, (some .int), [[((0, .aload_n 0, 1, 0, 0, 0, 0), 5, 0), ((1, .getfield 15, 3, 10, 0, 20, 518), 50, 0), ((4, .getfield 103, 3, 9, 4, 0, 544), 50, 0), ((7, .lookupswitch 53 #[(23, 41), (41, 47), (46, 50), (50, 44)], 41, 0, 0, 0, 0), 59, 0)],
  [],
  [],
  [((48, .bipush 25, 2, 25, 0, 0, 0), 13, 0), ((50, .ireturn, 1, 0, 0, 0, 0), 1000, 0), ((51, .bipush 53, 2, 53, 0, 0, 0), 13, 0), ((53, .ireturn, 1, 0, 0, 0, 0), 1000, 0), ((54, .bipush 50, 2, 50, 0, 0, 0), 13, 0), ((56, .ireturn, 1, 0, 0, 0, 0), 1000, 0), ((57, .bipush 51, 2, 51, 0, 0, 0), 13, 0), ((59, .ireturn, 1, 0, 0, 0, 0), 1000, 0), ((60, .iconst (-1), 1, 4294967295, 0, 0, 0), 12, 0), ((61, .ireturn, 1, 0, 0, 0, 0), 1000, 0)]])
def al_mX4_binary : ev_MeK := (al_yX4_binary, prog_6_method_45_code, 1, (some .int), [[((0, .iload_n 0, 1, 0, 0, 0, 0), 1, 0), ((1, .tableswitch 180 40 69 #[135, 138, 141, 147, 150, 153, 156, 168, 174, 180, 180, 180, 180, 180, 180, 180, 180, 180, 180, 180, 180, 144, 159, 162, 165, 180, 180, 180, 171, 177], 135, 0, 0, 0, 0), 58, 0)],
  [],
  [],
  [],
  [],
  [],
  [],
  [],
  [((136, .bipush 40, 2, 40, 0, 0, 0), 13, 0), ((138, .ireturn, 1, 0, 0, 0, 0), 1000, 0), ((139, .bipush 41, 2, 41, 0, 0, 0), 13, 0), ((141, .ireturn, 1, 0, 0, 0, 0), 1000, 0), ((142, .bipush 42, 2, 42, 0, 0, 0), 13, 0)],
  [((144, .ireturn, 1, 0, 0, 0, 0), 1000, 0), ((145, .bipush 43, 2, 43, 0, 0, 0), 13, 0), ((147, .ireturn, 1, 0, 0, 0, 0), 1000, 0), ((148, .bipush 44, 2, 44, 0, 0, 0), 13, 0), ((150, .ireturn, 1, 0, 0, 0, 0), 1000, 0), ((151, .bipush 45, 2, 45, 0, 0, 0), 13, 0), ((153, .ireturn, 1, 0, 0, 0, 0), 1000, 0), ((154, .bipush 46, 2, 46, 0, 0, 0), 13, 0), ((156, .ireturn, 1, 0, 0, 0, 0), 1000, 0), ((157, .bipush 47, 2, 47, 0, 0, 0), 13, 0), ((159, .ireturn, 1, 0, 0, 0, 0), 1000, 0)],
  [((160, .bipush 48, 2, 48, 0, 0, 0), 13, 0), ((162, .ireturn, 1, 0, 0, 0, 0), 1000, 0), ((163, .bipush 49, 2, 49, 0, 0, 0), 13, 0), ((165, .ireturn, 1, 0, 0, 0, 0), 1000, 0), ((166, .bipush 52, 2, 52, 0, 0, 0), 13, 0), ((168, .ireturn, 1, 0, 0, 0, 0), 1000, 0), ((169, .bipush 55, 2, 55, 0, 0, 0), 13, 0), ((171, .ireturn, 1, 0, 0, 0, 0), 1000, 0), ((172, .bipush 56, 2, 56, 0, 0, 0), 13, 0), ((174, .ireturn, 1, 0, 0, 0, 0), 1000, 0), ((175, .bipush 57, 2, 57, 0, 0, 0), 13, 0)],
  [((177, .ireturn, 1, 0, 0, 0, 0), 1000, 0), ((178, .bipush 58, 2, 58, 0, 0, 0), 13, 0), ((180, .ireturn, 1, 0, 0, 0, 0), 1000, 0), ((181, .bipush 54, 2, 54, 0, 0, 0), 13, 0), ((183, .ireturn, 1, 0, 0, 0, 0), 1000, 0)]])
def al_mX4_expression : ev_MeK := (al_yX4_expression, prog_6_method_46_code, 6, (some .boolean), [[((0, .aload_n 0, 1, 0, 0, 0, 0), 5, 0), ((1, .invokevirtual 207, 3, 114, 1, 10, 694), 56, 0), ((4, .ifCond .ne 10, 3, 14, 0, 0, 0), 39, 0), ((7, .aload_n 0, 1, 0, 0, 0, 0), 5, 0), ((8, .iconst 2, 1, 2, 0, 0, 0), 12, 0), ((9, .invokevirtual 106, 3, 109, 2, 10, 545), 56, 0), ((12, .iconst 0, 1, 0, 0, 0, 0), 12, 0), ((13, .ireturn, 1, 0, 0, 0, 0), 1000, 0), ((14, .iload_n 2, 1, 0, 0, 0, 0), 1, 2), ((15, .bipush 20, 2, 20, 0, 0, 0), 13, 0)],
  [((17, .if_icmp .le 10, 3, 27, 0, 0, 0), 49, 0), ((20, .aload_n 0, 1, 0, 0, 0, 0), 5, 0), ((21, .iconst 3, 1, 3, 0, 0, 0), 12, 0), ((22, .invokevirtual 106, 3, 109, 2, 10, 545), 56, 0), ((25, .iconst 0, 1, 0, 0, 0, 0), 12, 0), ((26, .ireturn, 1, 0, 0, 0, 0), 1000, 0), ((27, .iconst 0, 1, 0, 0, 0, 0), 12, 0), ((28, .istore_n 3, 1, 0, 0, 0, 0), 7, 3), ((29, .aload_n 0, 1, 0, 0, 0, 0), 5, 0), ((30, .invokevirtual 151, 3, 146, 1, 10, 679), 56, 0)],
  [((33, .istore 4, 2, 0, 0, 0, 0), 6, 4), ((35, .iload 4, 2, 0, 0, 0, 0), 0, 4), ((37, .iconst (-1), 1, 4294967295, 0, 0, 0), 12, 0), ((38, .if_icmp .eq 39, 3, 77, 0, 0, 0), 44, 0), ((41, .aload_n 0, 1, 0, 0, 0, 0), 5, 0), ((42, .getfield 15, 3, 10, 0, 20, 518), 50, 0), ((45, .getfield 121, 3, 9, 6, 0, 674), 50, 0)],
  [((48, .istore 5, 2, 0, 0, 0, 0), 6, 5), ((50, .aload_n 0, 1, 0, 0, 0, 0), 5, 0), ((51, .invokevirtual 93, 3, 77, 1, 10, 541), 56, 0), ((54, .aload_n 0, 1, 0, 0, 0, 0), 5, 0), ((55, .bipush 11, 2, 11, 0, 0, 0), 13, 0), ((57, .iload_n 2, 1, 0, 0, 0, 0), 1, 2), ((58, .iconst 1, 1, 1, 0, 0, 0), 12, 0), ((59, .iadd, 1, 0, 0, 0, 0), 16, 0), ((60, .invokevirtual 222, 3, 148, 3, 10, 699), 56, 0), ((63, .pop, 1, 0, 0, 0, 0), 58, 0)],
  [((64, .aload_n 0, 1, 0, 0, 0, 0), 5, 0), ((65, .iload 4, 2, 0, 0, 0, 0), 0, 4), ((67, .iconst 0, 1, 0, 0, 0, 0), 12, 0), ((68, .iload 5, 2, 0, 0, 0, 0), 0, 5), ((70, .iconst 0, 1, 0, 0, 0, 0), 12, 0), ((71, .invokevirtual 260, 3, 112, 5, 10, 710), 56, 0), ((74, .goto 9, 3, 83, 0, 0, 0), 37, 0), ((77, .aload_n 0, 1, 0, 0, 0, 0), 5, 0), ((78, .iload_n 2, 1, 0, 0, 0, 0), 1, 2), ((79, .invokevirtual 331, 3, 150, 2, 10, 733), 56, 0)],
  [((82, .istore_n 3, 1, 0, 0, 0, 0), 7, 3), ((83, .iconst 0, 1, 0, 0, 0, 0), 12, 0), ((84, .istore 5, 2, 0, 0, 0, 0), 6, 5), ((86, .iload 5, 2, 0, 0, 0, 0), 0, 5), ((88, .sipush 1500, 3, 1500, 0, 0, 0), 14, 0), ((91, .if_icmp .gt 24, 3, 115, 0, 0, 0), 48, 0), ((94, .aload_n 0, 1, 0, 0, 0, 0), 5, 0), ((95, .invokevirtual 334, 3, 145, 1, 10, 734), 56, 0)],
  [((98, .iload_n 1, 1, 0, 0, 0, 0), 1, 1), ((99, .if_icmp .le 16, 3, 115, 0, 0, 0), 49, 0), ((102, .iconst 0, 1, 0, 0, 0, 0), 12, 0), ((103, .istore_n 3, 1, 0, 0, 0, 0), 7, 3), ((104, .aload_n 0, 1, 0, 0, 0, 0), 5, 0), ((105, .iload_n 2, 1, 0, 0, 0, 0), 1, 2), ((106, .invokevirtual 337, 3, 149, 2, 10, 735), 56, 0), ((109, .iinc 5 1, 3, 1, 0, 0, 0), 36, 5)],
  [((112, .goto (-26), 3, 86, 0, 0, 0), 37, 0), ((115, .iload_n 3, 1, 0, 0, 0, 0), 1, 3), ((116, .ireturn, 1, 0, 0, 0, 0), 1000, 0)]])
def al_mX4_operation : ev_MeK := (al_yX4_operation, prog_6_method_47_code, 6, none, [[((0, .aload_n 0, 1, 0, 0, 0, 0), 5, 0), ((1, .getfield 15, 3, 10, 0, 20, 518), 50, 0), ((4, .getfield 103, 3, 9, 4, 0, 544), 50, 0), ((7, .istore_n 2, 1, 0, 0, 0, 0), 7, 2), ((8, .aload_n 0, 1, 0, 0, 0, 0), 5, 0), ((9, .getfield 15, 3, 10, 0, 20, 518), 50, 0), ((12, .getfield 121, 3, 9, 6, 0, 674), 50, 0), ((15, .istore_n 3, 1, 0, 0, 0, 0), 7, 3)],
  [((16, .aload_n 0, 1, 0, 0, 0, 0), 5, 0), ((17, .invokevirtual 334, 3, 145, 1, 10, 734), 56, 0), ((20, .istore 4, 2, 0, 0, 0, 0), 6, 4), ((22, .aload_n 0, 1, 0, 0, 0, 0), 5, 0), ((23, .invokevirtual 93, 3, 77, 1, 10, 541), 56, 0), ((26, .iload_n 2, 1, 0, 0, 0, 0), 1, 2), ((27, .bipush 10, 2, 10, 0, 0, 0), 13, 0), ((29, .if_icmp .eq 9, 3, 38, 0, 0, 0), 44, 0)],
  [((32, .iload_n 2, 1, 0, 0, 0, 0), 1, 2), ((33, .bipush 24, 2, 24, 0, 0, 0), 13, 0), ((35, .if_icmp .ne 53, 3, 88, 0, 0, 0), 45, 0), ((38, .aload_n 0, 1, 0, 0, 0, 0), 5, 0), ((39, .iload_n 2, 1, 0, 0, 0, 0), 1, 2), ((40, .bipush 10, 2, 10, 0, 0, 0), 13, 0), ((42, .if_icmp .ne 8, 3, 50, 0, 0, 0), 45, 0), ((45, .bipush 23, 2, 23, 0, 0, 0), 13, 0), ((47, .goto 5, 3, 52, 0, 0, 0), 37, 0)],
  [((50, .bipush 24, 2, 24, 0, 0, 0), 13, 0), ((52, .iconst 0, 1, 0, 0, 0, 0), 12, 0), ((53, .iconst (-1), 1, 4294967295, 0, 0, 0), 12, 0), ((54, .iload_n 3, 1, 0, 0, 0, 0), 1, 3), ((55, .invokevirtual 96, 3, 78, 5, 10, 542), 56, 0), ((58, .istore 5, 2, 0, 0, 0, 0), 6, 5), ((60, .aload_n 0, 1, 0, 0, 0, 0), 5, 0), ((61, .getfield 32, 3, 10, 3, 20, 525), 50, 0)],
  [((64, .iconst (-1), 1, 4294967295, 0, 0, 0), 12, 0), ((65, .invokevirtual 145, 3, 163, 2, 11, 677), 56, 0), ((68, .aload_n 0, 1, 0, 0, 0, 0), 5, 0), ((69, .iload 4, 2, 0, 0, 0, 0), 0, 4), ((71, .iload_n 1, 1, 0, 0, 0, 0), 1, 1), ((72, .iconst 1, 1, 1, 0, 0, 0), 12, 0), ((73, .iadd, 1, 0, 0, 0, 0), 16, 0), ((74, .invokevirtual 222, 3, 148, 3, 10, 699), 56, 0), ((77, .pop, 1, 0, 0, 0, 0), 58, 0), ((78, .aload_n 0, 1, 0, 0, 0, 0), 5, 0), ((79, .getfield 19, 3, 10, 1, 20, 519), 50, 0)],
  [((82, .iload 5, 2, 0, 0, 0, 0), 0, 5), ((84, .invokevirtual 230, 3, 159, 2, 5, 701), 56, 0), ((87, .return_, 1, 0, 0, 0, 0), 1000, 0), ((88, .aload_n 0, 1, 0, 0, 0, 0), 5, 0), ((89, .iload 4, 2, 0, 0, 0, 0), 0, 4), ((91, .bipush 8, 2, 8, 0, 0, 0), 13, 0), ((93, .if_icmp .ne 10, 3, 103, 0, 0, 0), 45, 0)],
  [((96, .iload 4, 2, 0, 0, 0, 0), 0, 4), ((98, .iconst 1, 1, 1, 0, 0, 0), 12, 0), ((99, .isub, 1, 0, 0, 0, 0), 17, 0), ((100, .goto 5, 3, 105, 0, 0, 0), 37, 0), ((103, .iload 4, 2, 0, 0, 0, 0), 0, 4), ((105, .iload_n 1, 1, 0, 0, 0, 0), 1, 1), ((106, .iconst 1, 1, 1, 0, 0, 0), 12, 0), ((107, .iadd, 1, 0, 0, 0, 0), 16, 0), ((108, .invokevirtual 222, 3, 148, 3, 10, 699), 56, 0), ((111, .pop, 1, 0, 0, 0, 0), 58, 0)],
  [((112, .aload_n 0, 1, 0, 0, 0, 0), 5, 0), ((113, .iload_n 2, 1, 0, 0, 0, 0), 1, 2), ((114, .invokestatic 340, 3, 147, 1, 0, 736), 57, 0), ((117, .iconst 0, 1, 0, 0, 0, 0), 12, 0), ((118, .iload_n 3, 1, 0, 0, 0, 0), 1, 3), ((119, .iconst (-1), 1, 4294967295, 0, 0, 0), 12, 0), ((120, .invokevirtual 260, 3, 112, 5, 10, 710), 56, 0), ((123, .iload_n 2, 1, 0, 0, 0, 0), 1, 2), ((124, .bipush 67, 2, 67, 0, 0, 0), 13, 0), ((126, .if_icmp .ne 15, 3, 141, 0, 0, 0), 45, 0)],
  [((129, .aload_n 0, 1, 0, 0, 0, 0), 5, 0), ((130, .bipush 25, 2, 25, 0, 0, 0), 13, 0), ((132, .iconst 0, 1, 0, 0, 0, 0), 12, 0), ((133, .iload_n 3, 1, 0, 0, 0, 0), 1, 3), ((134, .iconst 0, 1, 0, 0, 0, 0), 12, 0), ((135, .invokevirtual 260, 3, 112, 5, 10, 710), 56, 0), ((138, .goto 18, 3, 156, 0, 0, 0), 37, 0), ((141, .iload 4, 2, 0, 0, 0, 0), 0, 4), ((143, .iconst 3, 1, 3, 0, 0, 0), 12, 0)],
  [((144, .if_icmp .ne 12, 3, 156, 0, 0, 0), 45, 0), ((147, .aload_n 0, 1, 0, 0, 0, 0), 5, 0), ((148, .bipush 26, 2, 26, 0, 0, 0), 13, 0), ((150, .iconst 0, 1, 0, 0, 0, 0), 12, 0), ((151, .iload_n 3, 1, 0, 0, 0, 0), 1, 3), ((152, .iconst 0, 1, 0, 0, 0, 0), 12, 0), ((153, .invokevirtual 260, 3, 112, 5, 10, 710), 56, 0), ((156, .return_, 1, 0, 0, 0, 0), 1000, 0)]])
def al_mX4_operand : ev_MeK := (al_yX4_operand, prog_6_method_48_code, 4, (some .boolean), [[((0, .aload_n 0, 1, 0, 0, 0, 0), 5, 0), ((1, .getfield 15, 3, 10, 0, 20, 518), 50, 0), ((4, .getfield 121, 3, 9, 6, 0, 674), 50, 0), ((7, .istore_n 2, 1, 0, 0, 0, 0), 7, 2), ((8, .aload_n 0, 1, 0, 0, 0, 0), 5, 0), ((9, .getfield 15, 3, 10, 0, 20, 518), 50, 0), ((12, .getfield 103, 3, 9, 4, 0, 544), 50, 0), ((15, .lookupswitch 219 #[(3, 111), (4, 135), (16, 84), (18, 200), (22, 73), (28, 84), (53, 212), (65, 153)], 73, 0, 0, 0, 0), 59, 0)],
  [],
  [],
  [],
  [],
  [((88, .aload_n 0, 1, 0, 0, 0, 0), 5, 0), ((89, .iconst 1, 1, 1, 0, 0, 0), 12, 0), ((90, .iconst 1, 1, 1, 0, 0, 0), 12, 0), ((91, .iload_n 2, 1, 0, 0, 0, 0), 1, 2), ((92, .iconst 1, 1, 1, 0, 0, 0), 12, 0), ((93, .invokevirtual 260, 3, 112, 5, 10, 710), 56, 0)],
  [((96, .goto 164, 3, 260, 0, 0, 0), 37, 0), ((99, .aload_n 0, 1, 0, 0, 0, 0), 5, 0), ((100, .iconst 2, 1, 2, 0, 0, 0), 12, 0), ((101, .aload_n 0, 1, 0, 0, 0, 0), 5, 0), ((102, .getfield 15, 3, 10, 0, 20, 518), 50, 0), ((105, .getfield 103, 3, 9, 4, 0, 544), 50, 0), ((108, .bipush 28, 2, 28, 0, 0, 0), 13, 0), ((110, .if_icmp .ne 7, 3, 117, 0, 0, 0), 45, 0)],
  [((113, .iconst 1, 1, 1, 0, 0, 0), 12, 0), ((114, .goto 4, 3, 118, 0, 0, 0), 37, 0), ((117, .iconst 0, 1, 0, 0, 0, 0), 12, 0), ((118, .iload_n 2, 1, 0, 0, 0, 0), 1, 2), ((119, .iconst 1, 1, 1, 0, 0, 0), 12, 0), ((120, .invokevirtual 260, 3, 112, 5, 10, 710), 56, 0), ((123, .goto 137, 3, 260, 0, 0, 0), 37, 0), ((126, .aload_n 0, 1, 0, 0, 0, 0), 5, 0), ((127, .iconst 3, 1, 3, 0, 0, 0), 12, 0)],
  [((128, .aload_n 0, 1, 0, 0, 0, 0), 5, 0), ((129, .getfield 19, 3, 10, 1, 20, 519), 50, 0), ((132, .aload_n 0, 1, 0, 0, 0, 0), 5, 0), ((133, .getfield 15, 3, 10, 0, 20, 518), 50, 0), ((136, .getfield 236, 3, 9, 8, 10, 703), 50, 0), ((139, .invokevirtual 256, 3, 157, 2, 5, 709), 56, 0), ((142, .iload_n 2, 1, 0, 0, 0, 0), 1, 2), ((143, .iconst 1, 1, 1, 0, 0, 0), 12, 0)],
  [((144, .invokevirtual 260, 3, 112, 5, 10, 710), 56, 0), ((147, .goto 113, 3, 260, 0, 0, 0), 37, 0), ((150, .aload_n 0, 1, 0, 0, 0, 0), 5, 0), ((151, .iconst 4, 1, 4, 0, 0, 0), 12, 0), ((152, .aload_n 0, 1, 0, 0, 0, 0), 5, 0), ((153, .getfield 15, 3, 10, 0, 20, 518), 50, 0), ((156, .getfield 236, 3, 9, 8, 10, 703), 50, 0), ((159, .l2i, 1, 0, 0, 0, 0), 33, 0)],
  [((160, .iload_n 2, 1, 0, 0, 0, 0), 1, 2), ((161, .iconst 1, 1, 1, 0, 0, 0), 12, 0), ((162, .invokevirtual 260, 3, 112, 5, 10, 710), 56, 0), ((165, .goto 95, 3, 260, 0, 0, 0), 37, 0), ((168, .aload_n 0, 1, 0, 0, 0, 0), 5, 0), ((169, .getfield 19, 3, 10, 1, 20, 519), 50, 0), ((172, .getfield 80, 3, 5, 12, 20, 538), 50, 0), ((175, .aload_n 0, 1, 0, 0, 0, 0), 5, 0)],
  [((176, .getfield 32, 3, 10, 3, 20, 525), 50, 0), ((179, .invokevirtual 343, 3, 161, 1, 11, 737), 56, 0), ((182, .baload, 1, 0, 0, 0, 0), 54, 0), ((183, .ifCond .ne 8, 3, 191, 0, 0, 0), 39, 0), ((186, .aload_n 0, 1, 0, 0, 0, 0), 5, 0), ((187, .iconst 4, 1, 4, 0, 0, 0), 12, 0), ((188, .invokevirtual 106, 3, 109, 2, 10, 545), 56, 0), ((191, .aload_n 0, 1, 0, 0, 0, 0), 5, 0)],
  [((192, .invokevirtual 93, 3, 77, 1, 10, 541), 56, 0), ((195, .aload_n 0, 1, 0, 0, 0, 0), 5, 0), ((196, .bipush 17, 2, 17, 0, 0, 0), 13, 0), ((198, .iconst 0, 1, 0, 0, 0, 0), 12, 0), ((199, .iconst 1, 1, 1, 0, 0, 0), 12, 0), ((200, .iload_n 2, 1, 0, 0, 0, 0), 1, 2), ((201, .invokevirtual 96, 3, 78, 5, 10, 542), 56, 0), ((204, .pop, 1, 0, 0, 0, 0), 58, 0), ((205, .aload_n 0, 1, 0, 0, 0, 0), 5, 0), ((206, .getfield 32, 3, 10, 3, 20, 525), 50, 0)],
  [((209, .iconst 1, 1, 1, 0, 0, 0), 12, 0), ((210, .invokevirtual 145, 3, 163, 2, 11, 677), 56, 0), ((213, .iconst 1, 1, 1, 0, 0, 0), 12, 0), ((214, .ireturn, 1, 0, 0, 0, 0), 1000, 0), ((215, .aload_n 0, 1, 0, 0, 0, 0), 5, 0), ((216, .invokevirtual 93, 3, 77, 1, 10, 541), 56, 0), ((219, .aload_n 0, 1, 0, 0, 0, 0), 5, 0), ((220, .iload_n 1, 1, 0, 0, 0, 0), 1, 1), ((221, .iconst 0, 1, 0, 0, 0, 0), 12, 0), ((222, .invokevirtual 270, 3, 155, 3, 10, 713), 56, 0)],
  [((225, .iconst 0, 1, 0, 0, 0, 0), 12, 0), ((226, .ireturn, 1, 0, 0, 0, 0), 1000, 0), ((227, .aload_n 0, 1, 0, 0, 0, 0), 5, 0), ((228, .iload_n 1, 1, 0, 0, 0, 0), 1, 1), ((229, .invokevirtual 316, 3, 151, 2, 10, 728), 56, 0), ((232, .iconst 0, 1, 0, 0, 0, 0), 12, 0), ((233, .ireturn, 1, 0, 0, 0, 0), 1000, 0), ((234, .aload_n 0, 1, 0, 0, 0, 0), 5, 0), ((235, .iload_n 1, 1, 0, 0, 0, 0), 1, 1), ((236, .invokevirtual 319, 3, 137, 2, 10, 729), 56, 0), ((239, .aload_n 0, 1, 0, 0, 0, 0), 5, 0)],
  [((240, .getfield 280, 3, 10, 7, 0, 716), 50, 0), ((243, .bipush (-2), 2, 4294967294, 0, 0, 0), 13, 0), ((245, .if_icmp .ne 7, 3, 252, 0, 0, 0), 45, 0), ((248, .iconst 1, 1, 1, 0, 0, 0), 12, 0), ((249, .goto 4, 3, 253, 0, 0, 0), 37, 0), ((252, .iconst 0, 1, 0, 0, 0, 0), 12, 0), ((253, .istore_n 3, 1, 0, 0, 0, 0), 7, 3), ((254, .aload_n 0, 1, 0, 0, 0, 0), 5, 0), ((255, .invokevirtual 304, 3, 136, 1, 10, 724), 56, 0)],
  [((258, .iload_n 3, 1, 0, 0, 0, 0), 1, 3), ((259, .ireturn, 1, 0, 0, 0, 0), 1000, 0), ((260, .aload_n 0, 1, 0, 0, 0, 0), 5, 0), ((261, .invokevirtual 93, 3, 77, 1, 10, 541), 56, 0), ((264, .iconst 0, 1, 0, 0, 0, 0), 12, 0), ((265, .ireturn, 1, 0, 0, 0, 0), 1000, 0)]])
def al_mX4_table : ev_MeK := (al_yX4_table, prog_6_method_49_code, 6, none, [[((0, .aload_n 0, 1, 0, 0, 0, 0), 5, 0), ((1, .getfield 32, 3, 10, 3, 20, 525), 50, 0), ((4, .invokevirtual 109, 3, 84, 1, 11, 546), 56, 0), ((7, .istore_n 2, 1, 0, 0, 0, 0), 7, 2), ((8, .aload_n 0, 1, 0, 0, 0, 0), 5, 0), ((9, .bipush 13, 2, 13, 0, 0, 0), 13, 0), ((11, .iconst 0, 1, 0, 0, 0, 0), 12, 0), ((12, .aload_n 0, 1, 0, 0, 0, 0), 5, 0), ((13, .getfield 15, 3, 10, 0, 20, 518), 50, 0)],
  [((16, .getfield 121, 3, 9, 6, 0, 674), 50, 0), ((19, .iconst 1, 1, 1, 0, 0, 0), 12, 0), ((20, .invokevirtual 260, 3, 112, 5, 10, 710), 56, 0), ((23, .aload_n 0, 1, 0, 0, 0, 0), 5, 0), ((24, .invokevirtual 93, 3, 77, 1, 10, 541), 56, 0), ((27, .iconst 0, 1, 0, 0, 0, 0), 12, 0), ((28, .istore_n 3, 1, 0, 0, 0, 0), 7, 3), ((29, .iconst 0, 1, 0, 0, 0, 0), 12, 0), ((30, .istore 4, 2, 0, 0, 0, 0), 6, 4)],
  [((32, .iload 4, 2, 0, 0, 0, 0), 0, 4), ((34, .bipush 30, 2, 30, 0, 0, 0), 13, 0), ((36, .if_icmp .gt 135, 3, 171, 0, 0, 0), 48, 0), ((39, .aload_n 0, 1, 0, 0, 0, 0), 5, 0), ((40, .getfield 15, 3, 10, 0, 20, 518), 50, 0), ((43, .getfield 103, 3, 9, 4, 0, 544), 50, 0), ((46, .bipush 54, 2, 54, 0, 0, 0), 13, 0)],
  [((48, .if_icmp .eq 123, 3, 171, 0, 0, 0), 44, 0), ((51, .aload_n 0, 1, 0, 0, 0, 0), 5, 0), ((52, .getfield 15, 3, 10, 0, 20, 518), 50, 0), ((55, .getfield 103, 3, 9, 4, 0, 544), 50, 0), ((58, .bipush 55, 2, 55, 0, 0, 0), 13, 0), ((60, .if_icmp .eq 18, 3, 78, 0, 0, 0), 44, 0), ((63, .aload_n 0, 1, 0, 0, 0, 0), 5, 0)],
  [((64, .invokevirtual 207, 3, 114, 1, 10, 694), 56, 0), ((67, .ifCond .ne 11, 3, 78, 0, 0, 0), 39, 0), ((70, .aload_n 0, 1, 0, 0, 0, 0), 5, 0), ((71, .iconst 2, 1, 2, 0, 0, 0), 12, 0), ((72, .invokevirtual 106, 3, 109, 2, 10, 545), 56, 0), ((75, .goto 23, 3, 98, 0, 0, 0), 37, 0), ((78, .iload 4, 2, 0, 0, 0, 0), 0, 4)],
  [((80, .bipush 30, 2, 30, 0, 0, 0), 13, 0), ((82, .if_icmp .eq 11, 3, 93, 0, 0, 0), 44, 0), ((85, .iload_n 1, 1, 0, 0, 0, 0), 1, 1), ((86, .iconst 1, 1, 1, 0, 0, 0), 12, 0), ((87, .iadd, 1, 0, 0, 0, 0), 16, 0), ((88, .bipush 20, 2, 20, 0, 0, 0), 13, 0), ((90, .if_icmp .le 8, 3, 98, 0, 0, 0), 49, 0), ((93, .aload_n 0, 1, 0, 0, 0, 0), 5, 0), ((94, .iconst 3, 1, 3, 0, 0, 0), 12, 0), ((95, .invokevirtual 106, 3, 109, 2, 10, 545), 56, 0)],
  [((98, .aload_n 0, 1, 0, 0, 0, 0), 5, 0), ((99, .getfield 15, 3, 10, 0, 20, 518), 50, 0), ((102, .getfield 103, 3, 9, 4, 0, 544), 50, 0), ((105, .bipush 55, 2, 55, 0, 0, 0), 13, 0), ((107, .if_icmp .eq 24, 3, 131, 0, 0, 0), 44, 0), ((110, .aload_n 0, 1, 0, 0, 0, 0), 5, 0), ((111, .getfield 15, 3, 10, 0, 20, 518), 50, 0)],
  [((114, .getfield 103, 3, 9, 4, 0, 544), 50, 0), ((117, .iconst 2, 1, 2, 0, 0, 0), 12, 0), ((118, .if_icmp .ne 17, 3, 135, 0, 0, 0), 45, 0), ((121, .aload_n 0, 1, 0, 0, 0, 0), 5, 0), ((122, .getfield 15, 3, 10, 0, 20, 518), 50, 0), ((125, .invokevirtual 346, 3, 185, 1, 9, 738), 56, 0)],
  [((128, .ifCond .eq 7, 3, 135, 0, 0, 0), 38, 0), ((131, .iconst 1, 1, 1, 0, 0, 0), 12, 0), ((132, .goto 4, 3, 136, 0, 0, 0), 37, 0), ((135, .iconst 0, 1, 0, 0, 0, 0), 12, 0), ((136, .istore 5, 2, 0, 0, 0, 0), 6, 5), ((138, .iload 5, 2, 0, 0, 0, 0), 0, 5), ((140, .ifCond .eq 15, 3, 155, 0, 0, 0), 38, 0), ((143, .aload_n 0, 1, 0, 0, 0, 0), 5, 0)],
  [((144, .iload_n 1, 1, 0, 0, 0, 0), 1, 1), ((145, .invokevirtual 349, 3, 153, 2, 10, 739), 56, 0), ((148, .aload_n 0, 1, 0, 0, 0, 0), 5, 0), ((149, .invokevirtual 352, 3, 152, 1, 10, 740), 56, 0), ((152, .goto 13, 3, 165, 0, 0, 0), 37, 0), ((155, .iinc 3 1, 3, 1, 0, 0, 0), 36, 3), ((158, .aload_n 0, 1, 0, 0, 0, 0), 5, 0), ((159, .iload_n 1, 1, 0, 0, 0, 0), 1, 1)],
  [((160, .iload_n 3, 1, 0, 0, 0, 0), 1, 3), ((161, .iload_n 2, 1, 0, 0, 0, 0), 1, 2), ((162, .invokevirtual 355, 3, 154, 4, 10, 741), 56, 0), ((165, .iinc 4 1, 3, 1, 0, 0, 0), 36, 4), ((168, .goto (-136), 3, 32, 0, 0, 0), 37, 0), ((171, .aload_n 0, 1, 0, 0, 0, 0), 5, 0), ((172, .bipush 54, 2, 54, 0, 0, 0), 13, 0), ((174, .invokevirtual 180, 3, 110, 2, 10, 685), 56, 0)],
  [((177, .aload_n 0, 1, 0, 0, 0, 0), 5, 0), ((178, .getfield 32, 3, 10, 3, 20, 525), 50, 0), ((181, .iload_n 2, 1, 0, 0, 0, 0), 1, 2), ((182, .iconst 1, 1, 1, 0, 0, 0), 12, 0), ((183, .iadd, 1, 0, 0, 0, 0), 16, 0), ((184, .invokevirtual 148, 3, 162, 2, 11, 678), 56, 0), ((187, .return_, 1, 0, 0, 0, 0), 1000, 0)]])
def al_mX4_separator : ev_MeK := (al_yX4_separator, prog_6_method_50_code, 1, none, [[((0, .aload_n 0, 1, 0, 0, 0, 0), 5, 0), ((1, .getfield 15, 3, 10, 0, 20, 518), 50, 0), ((4, .getfield 103, 3, 9, 4, 0, 544), 50, 0), ((7, .bipush 59, 2, 59, 0, 0, 0), 13, 0), ((9, .if_icmp .eq 15, 3, 24, 0, 0, 0), 44, 0), ((12, .aload_n 0, 1, 0, 0, 0, 0), 5, 0), ((13, .getfield 15, 3, 10, 0, 20, 518), 50, 0)],
  [((16, .getfield 103, 3, 9, 4, 0, 544), 50, 0), ((19, .bipush 57, 2, 57, 0, 0, 0), 13, 0), ((21, .if_icmp .ne 10, 3, 31, 0, 0, 0), 45, 0), ((24, .aload_n 0, 1, 0, 0, 0, 0), 5, 0), ((25, .invokevirtual 93, 3, 77, 1, 10, 541), 56, 0), ((28, .goto 20, 3, 48, 0, 0, 0), 37, 0), ((31, .aload_n 0, 1, 0, 0, 0, 0), 5, 0)],
  [((32, .getfield 15, 3, 10, 0, 20, 518), 50, 0), ((35, .getfield 103, 3, 9, 4, 0, 544), 50, 0), ((38, .bipush 54, 2, 54, 0, 0, 0), 13, 0), ((40, .if_icmp .eq 8, 3, 48, 0, 0, 0), 44, 0), ((43, .aload_n 0, 1, 0, 0, 0, 0), 5, 0), ((44, .iconst 2, 1, 2, 0, 0, 0), 12, 0), ((45, .invokevirtual 106, 3, 109, 2, 10, 545), 56, 0)],
  [((48, .return_, 1, 0, 0, 0, 0), 1000, 0)]])
def al_mX4_keyedField : ev_MeK := (al_yX4_keyedField, prog_6_method_51_code, 3, none, [[((0, .aload_n 0, 1, 0, 0, 0, 0), 5, 0), ((1, .getfield 15, 3, 10, 0, 20, 518), 50, 0), ((4, .getfield 121, 3, 9, 6, 0, 674), 50, 0), ((7, .istore_n 2, 1, 0, 0, 0, 0), 7, 2), ((8, .aload_n 0, 1, 0, 0, 0, 0), 5, 0), ((9, .bipush 55, 2, 55, 0, 0, 0), 13, 0), ((11, .invokevirtual 173, 3, 111, 2, 10, 683), 56, 0), ((14, .ifCond .eq 21, 3, 35, 0, 0, 0), 38, 0)],
  [((17, .aload_n 0, 1, 0, 0, 0, 0), 5, 0), ((18, .iconst 0, 1, 0, 0, 0, 0), 12, 0), ((19, .iload_n 1, 1, 0, 0, 0, 0), 1, 1), ((20, .iconst 2, 1, 2, 0, 0, 0), 12, 0), ((21, .iadd, 1, 0, 0, 0, 0), 16, 0), ((22, .invokevirtual 222, 3, 148, 3, 10, 699), 56, 0), ((25, .pop, 1, 0, 0, 0, 0), 58, 0), ((26, .aload_n 0, 1, 0, 0, 0, 0), 5, 0), ((27, .bipush 56, 2, 56, 0, 0, 0), 13, 0), ((29, .invokevirtual 180, 3, 110, 2, 10, 685), 56, 0)],
  [((32, .goto 11, 3, 43, 0, 0, 0), 37, 0), ((35, .aload_n 0, 1, 0, 0, 0, 0), 5, 0), ((36, .invokevirtual 307, 3, 135, 1, 10, 725), 56, 0), ((39, .aload_n 0, 1, 0, 0, 0, 0), 5, 0), ((40, .invokevirtual 93, 3, 77, 1, 10, 541), 56, 0), ((43, .aload_n 0, 1, 0, 0, 0, 0), 5, 0), ((44, .bipush 49, 2, 49, 0, 0, 0), 13, 0), ((46, .invokevirtual 180, 3, 110, 2, 10, 685), 56, 0)],
  [((49, .aload_n 0, 1, 0, 0, 0, 0), 5, 0), ((50, .iconst 0, 1, 0, 0, 0, 0), 12, 0), ((51, .iload_n 1, 1, 0, 0, 0, 0), 1, 1), ((52, .iconst 2, 1, 2, 0, 0, 0), 12, 0), ((53, .iadd, 1, 0, 0, 0, 0), 16, 0), ((54, .invokevirtual 222, 3, 148, 3, 10, 699), 56, 0), ((57, .pop, 1, 0, 0, 0, 0), 58, 0), ((58, .aload_n 0, 1, 0, 0, 0, 0), 5, 0), ((59, .bipush 14, 2, 14, 0, 0, 0), 13, 0), ((61, .iconst 0, 1, 0, 0, 0, 0), 12, 0), ((62, .iload_n 2, 1, 0, 0, 0, 0), 1, 2), ((63, .bipush (-2), 2, 4294967294, 0, 0, 0), 13, 0)],
  [((65, .invokevirtual 260, 3, 112, 5, 10, 710), 56, 0), ((68, .return_, 1, 0, 0, 0, 0), 1000, 0)]])
def al_mX4_itemField : ev_MeK := (al_yX4_itemField, prog_6_method_52_code, 5, none, [[((0, .aload_n 0, 1, 0, 0, 0, 0), 5, 0), ((1, .iconst 0, 1, 0, 0, 0, 0), 12, 0), ((2, .iload_n 1, 1, 0, 0, 0, 0), 1, 1), ((3, .iconst 2, 1, 2, 0, 0, 0), 12, 0), ((4, .iadd, 1, 0, 0, 0, 0), 16, 0), ((5, .invokevirtual 222, 3, 148, 3, 10, 699), 56, 0), ((8, .istore 4, 2, 0, 0, 0, 0), 6, 4), ((10, .aload_n 0, 1, 0, 0, 0, 0), 5, 0), ((11, .invokevirtual 352, 3, 152, 1, 10, 740), 56, 0), ((14, .iload 4, 2, 0, 0, 0, 0), 0, 4)],
  [((16, .ifCond .eq 44, 3, 60, 0, 0, 0), 38, 0), ((19, .aload_n 0, 1, 0, 0, 0, 0), 5, 0), ((20, .getfield 15, 3, 10, 0, 20, 518), 50, 0), ((23, .getfield 103, 3, 9, 4, 0, 544), 50, 0), ((26, .bipush 54, 2, 54, 0, 0, 0), 13, 0), ((28, .if_icmp .ne 32, 3, 60, 0, 0, 0), 45, 0), ((31, .aload_n 0, 1, 0, 0, 0, 0), 5, 0)],
  [((32, .getfield 19, 3, 10, 1, 20, 519), 50, 0), ((35, .iconst (-1), 1, 4294967295, 0, 0, 0), 12, 0), ((36, .invokevirtual 322, 3, 158, 2, 5, 730), 56, 0), ((39, .aload_n 0, 1, 0, 0, 0, 0), 5, 0), ((40, .bipush 16, 2, 16, 0, 0, 0), 13, 0), ((42, .iload_n 2, 1, 0, 0, 0, 0), 1, 2), ((43, .iload_n 3, 1, 0, 0, 0, 0), 1, 3), ((44, .iconst 0, 1, 0, 0, 0, 0), 12, 0), ((45, .invokevirtual 96, 3, 78, 5, 10, 542), 56, 0)],
  [((48, .pop, 1, 0, 0, 0, 0), 58, 0), ((49, .aload_n 0, 1, 0, 0, 0, 0), 5, 0), ((50, .getfield 32, 3, 10, 3, 20, 525), 50, 0), ((53, .iconst (-1), 1, 4294967295, 0, 0, 0), 12, 0), ((54, .invokevirtual 145, 3, 163, 2, 11, 677), 56, 0), ((57, .goto 12, 3, 69, 0, 0, 0), 37, 0), ((60, .aload_n 0, 1, 0, 0, 0, 0), 5, 0), ((61, .bipush 15, 2, 15, 0, 0, 0), 13, 0), ((63, .iload_n 2, 1, 0, 0, 0, 0), 1, 2)],
  [((64, .iconst 0, 1, 0, 0, 0, 0), 12, 0), ((65, .iconst (-1), 1, 4294967295, 0, 0, 0), 12, 0), ((66, .invokevirtual 260, 3, 112, 5, 10, 710), 56, 0), ((69, .return_, 1, 0, 0, 0, 0), 1000, 0)]])
def al_mX4_body : ev_MeK := (al_yX4_body, prog_6_method_53_code, 6, none, [[((0, .aload_n 0, 1, 0, 0, 0, 0), 5, 0), ((1, .getfield 15, 3, 10, 0, 20, 518), 50, 0), ((4, .getfield 103, 3, 9, 4, 0, 544), 50, 0), ((7, .bipush 51, 2, 51, 0, 0, 0), 13, 0), ((9, .if_icmp .eq 9, 3, 18, 0, 0, 0), 44, 0), ((12, .aload_n 0, 1, 0, 0, 0, 0), 5, 0), ((13, .iconst 2, 1, 2, 0, 0, 0), 12, 0), ((14, .invokevirtual 106, 3, 109, 2, 10, 545), 56, 0)],
  [((17, .return_, 1, 0, 0, 0, 0), 1000, 0), ((18, .aload_n 0, 1, 0, 0, 0, 0), 5, 0), ((19, .getfield 19, 3, 10, 1, 20, 519), 50, 0), ((22, .getfield 358, 3, 5, 14, 0, 742), 50, 0), ((25, .bipush 50, 2, 50, 0, 0, 0), 13, 0), ((27, .if_icmp .lt 9, 3, 36, 0, 0, 0), 46, 0), ((30, .aload_n 0, 1, 0, 0, 0, 0), 5, 0), ((31, .iconst 3, 1, 3, 0, 0, 0), 12, 0)],
  [((32, .invokevirtual 106, 3, 109, 2, 10, 545), 56, 0), ((35, .return_, 1, 0, 0, 0, 0), 1000, 0), ((36, .aload_n 0, 1, 0, 0, 0, 0), 5, 0), ((37, .getfield 19, 3, 10, 1, 20, 519), 50, 0), ((40, .aload_n 0, 1, 0, 0, 0, 0), 5, 0), ((41, .getfield 15, 3, 10, 0, 20, 518), 50, 0), ((44, .getfield 121, 3, 9, 6, 0, 674), 50, 0), ((47, .invokevirtual 76, 3, 57, 2, 5, 537), 56, 0)],
  [((50, .istore_n 3, 1, 0, 0, 0, 0), 7, 3), ((51, .aload_n 0, 1, 0, 0, 0, 0), 5, 0), ((52, .bipush 18, 2, 18, 0, 0, 0), 13, 0), ((54, .iload_n 3, 1, 0, 0, 0, 0), 1, 3), ((55, .iconst (-1), 1, 4294967295, 0, 0, 0), 12, 0), ((56, .aload_n 0, 1, 0, 0, 0, 0), 5, 0), ((57, .getfield 15, 3, 10, 0, 20, 518), 50, 0), ((60, .getfield 121, 3, 9, 6, 0, 674), 50, 0), ((63, .invokevirtual 96, 3, 78, 5, 10, 542), 56, 0)],
  [((66, .istore 4, 2, 0, 0, 0, 0), 6, 4), ((68, .aload_n 0, 1, 0, 0, 0, 0), 5, 0), ((69, .getfield 19, 3, 10, 1, 20, 519), 50, 0), ((72, .getfield 73, 3, 5, 7, 20, 536), 50, 0), ((75, .iload_n 3, 1, 0, 0, 0, 0), 1, 3), ((76, .aload_n 0, 1, 0, 0, 0, 0), 5, 0), ((77, .getfield 19, 3, 10, 1, 20, 519), 50, 0)],
  [((80, .getfield 219, 3, 5, 4, 0, 698), 50, 0), ((83, .iastore, 1, 0, 0, 0, 0), 53, 0), ((84, .aload_n 0, 1, 0, 0, 0, 0), 5, 0), ((85, .getfield 32, 3, 10, 3, 20, 525), 50, 0), ((88, .iload_n 3, 1, 0, 0, 0, 0), 1, 3), ((89, .invokevirtual 84, 3, 83, 2, 11, 539), 56, 0), ((92, .aload_n 0, 1, 0, 0, 0, 0), 5, 0), ((93, .getfield 32, 3, 10, 3, 20, 525), 50, 0)],
  [((96, .getfield 164, 3, 11, 3, 0, 680), 50, 0), ((99, .istore 5, 2, 0, 0, 0, 0), 6, 5), ((101, .iload_n 2, 1, 0, 0, 0, 0), 1, 2), ((102, .ifCond .eq 15, 3, 117, 0, 0, 0), 38, 0), ((105, .aload_n 0, 1, 0, 0, 0, 0), 5, 0), ((106, .getfield 32, 3, 10, 3, 20, 525), 50, 0), ((109, .aload_n 0, 1, 0, 0, 0, 0), 5, 0), ((110, .getfield 51, 3, 10, 12, 0, 529), 50, 0)],
  [((113, .invokevirtual 240, 3, 166, 2, 11, 704), 56, 0), ((116, .pop, 1, 0, 0, 0, 0), 58, 0), ((117, .aload_n 0, 1, 0, 0, 0, 0), 5, 0), ((118, .invokevirtual 93, 3, 77, 1, 10, 541), 56, 0), ((121, .aload_n 0, 1, 0, 0, 0, 0), 5, 0), ((122, .iload_n 3, 1, 0, 0, 0, 0), 1, 3), ((123, .invokevirtual 361, 3, 156, 2, 10, 743), 56, 0), ((126, .aload_n 0, 1, 0, 0, 0, 0), 5, 0), ((127, .bipush 52, 2, 52, 0, 0, 0), 13, 0)],
  [((129, .invokevirtual 180, 3, 110, 2, 10, 685), 56, 0), ((132, .aload_n 0, 1, 0, 0, 0, 0), 5, 0), ((133, .getfield 32, 3, 10, 3, 20, 525), 50, 0), ((136, .iload 5, 2, 0, 0, 0, 0), 0, 5), ((138, .iconst 0, 1, 0, 0, 0, 0), 12, 0), ((139, .invokevirtual 264, 3, 167, 3, 11, 711), 56, 0), ((142, .aload_n 0, 1, 0, 0, 0, 0), 5, 0), ((143, .getfield 19, 3, 10, 1, 20, 519), 50, 0)],
  [((146, .getfield 364, 3, 5, 8, 20, 744), 50, 0), ((149, .iload_n 3, 1, 0, 0, 0, 0), 1, 3), ((150, .aload_n 0, 1, 0, 0, 0, 0), 5, 0), ((151, .getfield 32, 3, 10, 3, 20, 525), 50, 0), ((154, .getfield 164, 3, 11, 3, 0, 680), 50, 0), ((157, .iload 5, 2, 0, 0, 0, 0), 0, 5), ((159, .isub, 1, 0, 0, 0, 0), 17, 0)],
  [((160, .iastore, 1, 0, 0, 0, 0), 53, 0), ((161, .aload_n 0, 1, 0, 0, 0, 0), 5, 0), ((162, .getfield 32, 3, 10, 3, 20, 525), 50, 0), ((165, .aload_n 0, 1, 0, 0, 0, 0), 5, 0), ((166, .getfield 19, 3, 10, 1, 20, 519), 50, 0), ((169, .getfield 364, 3, 5, 8, 20, 744), 50, 0), ((172, .iload_n 3, 1, 0, 0, 0, 0), 1, 3), ((173, .iaload, 1, 0, 0, 0, 0), 52, 0), ((174, .invokevirtual 148, 3, 162, 2, 11, 678), 56, 0)],
  [((177, .aload_n 0, 1, 0, 0, 0, 0), 5, 0), ((178, .iconst 0, 1, 0, 0, 0, 0), 12, 0), ((179, .iconst 0, 1, 0, 0, 0, 0), 12, 0), ((180, .iconst 0, 1, 0, 0, 0, 0), 12, 0), ((181, .iconst 0, 1, 0, 0, 0, 0), 12, 0), ((182, .invokevirtual 96, 3, 78, 5, 10, 542), 56, 0), ((185, .pop, 1, 0, 0, 0, 0), 58, 0), ((186, .aload_n 0, 1, 0, 0, 0, 0), 5, 0), ((187, .iload_n 1, 1, 0, 0, 0, 0), 1, 1), ((188, .iconst 1, 1, 1, 0, 0, 0), 12, 0), ((189, .iadd, 1, 0, 0, 0, 0), 16, 0), ((190, .invokevirtual 100, 3, 80, 2, 10, 543), 56, 0)],
  [((193, .aload_n 0, 1, 0, 0, 0, 0), 5, 0), ((194, .bipush 20, 2, 20, 0, 0, 0), 13, 0), ((196, .aload_n 0, 1, 0, 0, 0, 0), 5, 0), ((197, .getfield 32, 3, 10, 3, 20, 525), 50, 0), ((200, .invokevirtual 109, 3, 84, 1, 11, 546), 56, 0), ((203, .iconst 0, 1, 0, 0, 0, 0), 12, 0), ((204, .iconst 0, 1, 0, 0, 0, 0), 12, 0), ((205, .invokevirtual 96, 3, 78, 5, 10, 542), 56, 0)],
  [((208, .pop, 1, 0, 0, 0, 0), 58, 0), ((209, .aload_n 0, 1, 0, 0, 0, 0), 5, 0), ((210, .bipush 15, 2, 15, 0, 0, 0), 13, 0), ((212, .invokevirtual 180, 3, 110, 2, 10, 685), 56, 0), ((215, .aload_n 0, 1, 0, 0, 0, 0), 5, 0), ((216, .getfield 32, 3, 10, 3, 20, 525), 50, 0), ((219, .invokevirtual 367, 3, 160, 1, 11, 745), 56, 0), ((222, .aload_n 0, 1, 0, 0, 0, 0), 5, 0), ((223, .getfield 19, 3, 10, 1, 20, 519), 50, 0)],
  [((226, .iload 4, 2, 0, 0, 0, 0), 0, 4), ((228, .invokevirtual 230, 3, 159, 2, 5, 701), 56, 0), ((231, .aload_n 0, 1, 0, 0, 0, 0), 5, 0), ((232, .getfield 32, 3, 10, 3, 20, 525), 50, 0), ((235, .iconst 1, 1, 1, 0, 0, 0), 12, 0), ((236, .invokevirtual 145, 3, 163, 2, 11, 677), 56, 0), ((239, .return_, 1, 0, 0, 0, 0), 1000, 0)]])
def al_mX4_parameters : ev_MeK := (al_yX4_parameters, prog_6_method_54_code, 5, none, [[((0, .aload_n 0, 1, 0, 0, 0, 0), 5, 0), ((1, .getfield 15, 3, 10, 0, 20, 518), 50, 0), ((4, .getfield 103, 3, 9, 4, 0, 544), 50, 0), ((7, .bipush 65, 2, 65, 0, 0, 0), 13, 0), ((9, .if_icmp .ne 7, 3, 16, 0, 0, 0), 45, 0), ((12, .iconst 1, 1, 1, 0, 0, 0), 12, 0), ((13, .goto 4, 3, 17, 0, 0, 0), 37, 0)],
  [((16, .iconst 0, 1, 0, 0, 0, 0), 12, 0), ((17, .istore_n 2, 1, 0, 0, 0, 0), 7, 2), ((18, .aload_n 0, 1, 0, 0, 0, 0), 5, 0), ((19, .getfield 15, 3, 10, 0, 20, 518), 50, 0), ((22, .getfield 103, 3, 9, 4, 0, 544), 50, 0), ((25, .iconst 2, 1, 2, 0, 0, 0), 12, 0), ((26, .if_icmp .ne 7, 3, 33, 0, 0, 0), 45, 0), ((29, .iconst 1, 1, 1, 0, 0, 0), 12, 0), ((30, .goto 4, 3, 34, 0, 0, 0), 37, 0)],
  [((33, .iconst 0, 1, 0, 0, 0, 0), 12, 0), ((34, .istore_n 3, 1, 0, 0, 0, 0), 7, 3), ((35, .iconst 0, 1, 0, 0, 0, 0), 12, 0), ((36, .istore 4, 2, 0, 0, 0, 0), 6, 4), ((38, .iload 4, 2, 0, 0, 0, 0), 0, 4), ((40, .bipush 50, 2, 50, 0, 0, 0), 13, 0), ((42, .if_icmp .gt 75, 3, 117, 0, 0, 0), 48, 0), ((45, .iload_n 3, 1, 0, 0, 0, 0), 1, 3), ((46, .ifCond .eq 71, 3, 117, 0, 0, 0), 38, 0)],
  [((49, .aload_n 0, 1, 0, 0, 0, 0), 5, 0), ((50, .invokevirtual 243, 3, 124, 1, 10, 705), 56, 0), ((53, .aload_n 0, 1, 0, 0, 0, 0), 5, 0), ((54, .invokevirtual 93, 3, 77, 1, 10, 541), 56, 0), ((57, .aload_n 0, 1, 0, 0, 0, 0), 5, 0), ((58, .getfield 15, 3, 10, 0, 20, 518), 50, 0), ((61, .getfield 103, 3, 9, 4, 0, 544), 50, 0)],
  [((64, .bipush 59, 2, 59, 0, 0, 0), 13, 0), ((66, .if_icmp .ne 7, 3, 73, 0, 0, 0), 45, 0), ((69, .iconst 1, 1, 1, 0, 0, 0), 12, 0), ((70, .goto 4, 3, 74, 0, 0, 0), 37, 0), ((73, .iconst 0, 1, 0, 0, 0, 0), 12, 0), ((74, .istore_n 3, 1, 0, 0, 0, 0), 7, 3), ((75, .iload_n 3, 1, 0, 0, 0, 0), 1, 3), ((76, .ifCond .eq 35, 3, 111, 0, 0, 0), 38, 0), ((79, .aload_n 0, 1, 0, 0, 0, 0), 5, 0)],
  [((80, .invokevirtual 93, 3, 77, 1, 10, 541), 56, 0), ((83, .aload_n 0, 1, 0, 0, 0, 0), 5, 0), ((84, .getfield 15, 3, 10, 0, 20, 518), 50, 0), ((87, .getfield 103, 3, 9, 4, 0, 544), 50, 0), ((90, .bipush 65, 2, 65, 0, 0, 0), 13, 0), ((92, .if_icmp .ne 7, 3, 99, 0, 0, 0), 45, 0), ((95, .iconst 1, 1, 1, 0, 0, 0), 12, 0)],
  [((96, .goto 4, 3, 100, 0, 0, 0), 37, 0), ((99, .iconst 0, 1, 0, 0, 0, 0), 12, 0), ((100, .istore_n 2, 1, 0, 0, 0, 0), 7, 2), ((101, .iload_n 2, 1, 0, 0, 0, 0), 1, 2), ((102, .ifCond .ne 7, 3, 109, 0, 0, 0), 39, 0), ((105, .iconst 1, 1, 1, 0, 0, 0), 12, 0), ((106, .goto 4, 3, 110, 0, 0, 0), 37, 0), ((109, .iconst 0, 1, 0, 0, 0, 0), 12, 0), ((110, .istore_n 3, 1, 0, 0, 0, 0), 7, 3), ((111, .iinc 4 1, 3, 1, 0, 0, 0), 36, 4)],
  [((114, .goto (-76), 3, 38, 0, 0, 0), 37, 0), ((117, .iload_n 2, 1, 0, 0, 0, 0), 1, 2), ((118, .ifCond .eq 17, 3, 135, 0, 0, 0), 38, 0), ((121, .aload_n 0, 1, 0, 0, 0, 0), 5, 0), ((122, .getfield 19, 3, 10, 1, 20, 519), 50, 0), ((125, .getfield 80, 3, 5, 12, 20, 538), 50, 0)],
  [((128, .iload_n 1, 1, 0, 0, 0, 0), 1, 1), ((129, .iconst 1, 1, 1, 0, 0, 0), 12, 0), ((130, .bastore, 1, 0, 0, 0, 0), 55, 0), ((131, .aload_n 0, 1, 0, 0, 0, 0), 5, 0), ((132, .invokevirtual 93, 3, 77, 1, 10, 541), 56, 0), ((135, .return_, 1, 0, 0, 0, 0), 1000, 0)]])
def al_mX6_addWhole : ev_MeK := (al_yX6_addWhole, prog_8_method_5_code, 3, (some .int), [[((0, .aload_n 0, 1, 0, 0, 0, 0), 5, 0), ((1, .getfield 52, 3, 5, 6, 0, 434), 50, 0), ((4, .sipush 10000, 3, 10000, 0, 0, 0), 14, 0), ((7, .if_icmp .lt 5, 3, 12, 0, 0, 0), 46, 0), ((10, .iconst 0, 1, 0, 0, 0, 0), 12, 0), ((11, .ireturn, 1, 0, 0, 0, 0), 1000, 0), ((12, .aload_n 0, 1, 0, 0, 0, 0), 5, 0), ((13, .getfield 22, 3, 5, 5, 20, 425), 50, 0)],
  [((16, .aload_n 0, 1, 0, 0, 0, 0), 5, 0), ((17, .getfield 52, 3, 5, 6, 0, 434), 50, 0), ((20, .lload_n 1, 1, 0, 0, 0, 0), 3, 1), ((21, .lastore, 1, 0, 0, 0, 0), 58, 0), ((22, .aload_n 0, 1, 0, 0, 0, 0), 5, 0), ((23, .dup, 1, 0, 0, 0, 0), 35, 0), ((24, .getfield 52, 3, 5, 6, 0, 434), 50, 0), ((27, .iconst 1, 1, 1, 0, 0, 0), 12, 0), ((28, .iadd, 1, 0, 0, 0, 0), 16, 0), ((29, .putfield 52, 3, 5, 6, 0, 434), 51, 0)],
  [((32, .aload_n 0, 1, 0, 0, 0, 0), 5, 0), ((33, .getfield 52, 3, 5, 6, 0, 434), 50, 0), ((36, .iconst 1, 1, 1, 0, 0, 0), 12, 0), ((37, .isub, 1, 0, 0, 0, 0), 17, 0), ((38, .ireturn, 1, 0, 0, 0, 0), 1000, 0)]])
def al_mX6_wantOfLast : ev_MeK := (al_yX6_wantOfLast, prog_8_method_6_code, 2, none, [[((0, .aload_n 0, 1, 0, 0, 0, 0), 5, 0), ((1, .getfield 48, 3, 5, 4, 0, 433), 50, 0), ((4, .ifCond .le 15, 3, 19, 0, 0, 0), 43, 0), ((7, .aload_n 0, 1, 0, 0, 0, 0), 5, 0), ((8, .getfield 16, 3, 5, 2, 20, 423), 50, 0), ((11, .aload_n 0, 1, 0, 0, 0, 0), 5, 0), ((12, .getfield 48, 3, 5, 4, 0, 433), 50, 0), ((15, .iconst 1, 1, 1, 0, 0, 0), 12, 0)],
  [((16, .isub, 1, 0, 0, 0, 0), 17, 0), ((17, .iload_n 1, 1, 0, 0, 0, 0), 1, 1), ((18, .iastore, 1, 0, 0, 0, 0), 53, 0), ((19, .return_, 1, 0, 0, 0, 0), 1000, 0)]])
def al_mX6_land : ev_MeK := (al_yX6_land, prog_8_method_7_code, 5, none, [[((0, .iload_n 1, 1, 0, 0, 0, 0), 1, 1), ((1, .istore_n 2, 1, 0, 0, 0, 0), 7, 2), ((2, .iconst 0, 1, 0, 0, 0, 0), 12, 0), ((3, .istore_n 3, 1, 0, 0, 0, 0), 7, 3), ((4, .iload_n 3, 1, 0, 0, 0, 0), 1, 3), ((5, .sipush 10000, 3, 10000, 0, 0, 0), 14, 0), ((8, .if_icmp .ge 34, 3, 42, 0, 0, 0), 47, 0), ((11, .iload_n 2, 1, 0, 0, 0, 0), 1, 2), ((12, .ifCond .lt 30, 3, 42, 0, 0, 0), 40, 0), ((15, .aload_n 0, 1, 0, 0, 0, 0), 5, 0)],
  [((16, .getfield 16, 3, 5, 2, 20, 423), 50, 0), ((19, .iload_n 2, 1, 0, 0, 0, 0), 1, 2), ((20, .iaload, 1, 0, 0, 0, 0), 52, 0), ((21, .istore 4, 2, 0, 0, 0, 0), 6, 4), ((23, .aload_n 0, 1, 0, 0, 0, 0), 5, 0), ((24, .getfield 16, 3, 5, 2, 20, 423), 50, 0), ((27, .iload_n 2, 1, 0, 0, 0, 0), 1, 2), ((28, .aload_n 0, 1, 0, 0, 0, 0), 5, 0), ((29, .getfield 48, 3, 5, 4, 0, 433), 50, 0)],
  [((32, .iastore, 1, 0, 0, 0, 0), 53, 0), ((33, .iload 4, 2, 0, 0, 0, 0), 0, 4), ((35, .istore_n 2, 1, 0, 0, 0, 0), 7, 2), ((36, .iinc 3 1, 3, 1, 0, 0, 0), 36, 3), ((39, .goto (-35), 3, 4, 0, 0, 0), 37, 0), ((42, .return_, 1, 0, 0, 0, 0), 1000, 0)]])
def al_mX7_leave : ev_MeK := (al_yX7_leave, prog_9_method_4_code, 1, none, [[((0, .aload_n 0, 1, 0, 0, 0, 0), 5, 0), ((1, .aload_n 0, 1, 0, 0, 0, 0), 5, 0), ((2, .getfield 23, 3, 11, 5, 20, 563), 50, 0), ((5, .aload_n 0, 1, 0, 0, 0, 0), 5, 0), ((6, .getfield 39, 3, 11, 8, 0, 568), 50, 0), ((9, .iaload, 1, 0, 0, 0, 0), 52, 0), ((10, .putfield 43, 3, 11, 3, 0, 569), 51, 0), ((13, .aload_n 0, 1, 0, 0, 0, 0), 5, 0), ((14, .dup, 1, 0, 0, 0, 0), 35, 0), ((15, .getfield 39, 3, 11, 8, 0, 568), 50, 0)],
  [((18, .iconst 1, 1, 1, 0, 0, 0), 12, 0), ((19, .isub, 1, 0, 0, 0, 0), 17, 0), ((20, .putfield 39, 3, 11, 8, 0, 568), 51, 0), ((23, .return_, 1, 0, 0, 0, 0), 1000, 0)]])
def al_mX7_current : ev_MeK := (al_yX7_current, prog_9_method_5_code, 1, (some .int), [[((0, .aload_n 0, 1, 0, 0, 0, 0), 5, 0), ((1, .getfield 20, 3, 11, 4, 20, 562), 50, 0), ((4, .aload_n 0, 1, 0, 0, 0, 0), 5, 0), ((5, .getfield 39, 3, 11, 8, 0, 568), 50, 0), ((8, .iaload, 1, 0, 0, 0, 0), 52, 0), ((9, .ireturn, 1, 0, 0, 0, 0), 1000, 0)]])
def al_mX7_setHeight : ev_MeK := (al_yX7_setHeight, prog_9_method_7_code, 2, none, [[((0, .aload_n 0, 1, 0, 0, 0, 0), 5, 0), ((1, .getfield 26, 3, 11, 6, 20, 564), 50, 0), ((4, .aload_n 0, 1, 0, 0, 0, 0), 5, 0), ((5, .getfield 39, 3, 11, 8, 0, 568), 50, 0), ((8, .iload_n 1, 1, 0, 0, 0, 0), 1, 1), ((9, .iastore, 1, 0, 0, 0, 0), 53, 0), ((10, .return_, 1, 0, 0, 0, 0), 1000, 0)]])
def al_mX7_rise : ev_MeK := (al_yX7_rise, prog_9_method_8_code, 2, none, [[((0, .aload_n 0, 1, 0, 0, 0, 0), 5, 0), ((1, .getfield 26, 3, 11, 6, 20, 564), 50, 0), ((4, .aload_n 0, 1, 0, 0, 0, 0), 5, 0), ((5, .getfield 39, 3, 11, 8, 0, 568), 50, 0), ((8, .dup2, 1, 0, 0, 0, 0), 58, 0), ((9, .iaload, 1, 0, 0, 0, 0), 52, 0), ((10, .iload_n 1, 1, 0, 0, 0, 0), 1, 1), ((11, .iadd, 1, 0, 0, 0, 0), 16, 0), ((12, .iastore, 1, 0, 0, 0, 0), 53, 0), ((13, .return_, 1, 0, 0, 0, 0), 1000, 0)]])
def al_mX7_breaks : ev_MeK := (al_yX7_breaks, prog_9_method_9_code, 1, (some .int), [[((0, .aload_n 0, 1, 0, 0, 0, 0), 5, 0), ((1, .getfield 29, 3, 11, 7, 20, 565), 50, 0), ((4, .aload_n 0, 1, 0, 0, 0, 0), 5, 0), ((5, .getfield 39, 3, 11, 8, 0, 568), 50, 0), ((8, .iaload, 1, 0, 0, 0, 0), 52, 0), ((9, .ireturn, 1, 0, 0, 0, 0), 1000, 0)]])
def al_mX7_setBreaks : ev_MeK := (al_yX7_setBreaks, prog_9_method_10_code, 2, none, [[((0, .aload_n 0, 1, 0, 0, 0, 0), 5, 0), ((1, .getfield 29, 3, 11, 7, 20, 565), 50, 0), ((4, .aload_n 0, 1, 0, 0, 0, 0), 5, 0), ((5, .getfield 39, 3, 11, 8, 0, 568), 50, 0), ((8, .iload_n 1, 1, 0, 0, 0, 0), 1, 1), ((9, .iastore, 1, 0, 0, 0, 0), 53, 0), ((10, .return_, 1, 0, 0, 0, 0), 1000, 0)]])
def al_mX7_hide : ev_MeK := (al_yX7_hide, prog_9_method_11_code, 3, (some .boolean), [[((0, .aload_n 0, 1, 0, 0, 0, 0), 5, 0), ((1, .getfield 20, 3, 11, 4, 20, 562), 50, 0), ((4, .aload_n 0, 1, 0, 0, 0, 0), 5, 0), ((5, .getfield 39, 3, 11, 8, 0, 568), 50, 0), ((8, .iaload, 1, 0, 0, 0, 0), 52, 0), ((9, .istore_n 2, 1, 0, 0, 0, 0), 7, 2), ((10, .aload_n 0, 1, 0, 0, 0, 0), 5, 0), ((11, .getfield 35, 3, 11, 0, 20, 567), 50, 0), ((14, .getfield 46, 3, 5, 9, 20, 746), 50, 0)],
  [((17, .iload_n 2, 1, 0, 0, 0, 0), 1, 2), ((18, .iaload, 1, 0, 0, 0, 0), 52, 0), ((19, .bipush 50, 2, 50, 0, 0, 0), 13, 0), ((21, .if_icmp .ge 15, 3, 36, 0, 0, 0), 47, 0), ((24, .aload_n 0, 1, 0, 0, 0, 0), 5, 0), ((25, .getfield 43, 3, 11, 3, 0, 569), 50, 0), ((28, .aload_n 0, 1, 0, 0, 0, 0), 5, 0), ((29, .getfield 13, 3, 11, 1, 20, 560), 50, 0)],
  [((32, .arraylength, 1, 0, 0, 0, 0), 58, 0), ((33, .if_icmp .lt 5, 3, 38, 0, 0, 0), 46, 0), ((36, .iconst 0, 1, 0, 0, 0, 0), 12, 0), ((37, .ireturn, 1, 0, 0, 0, 0), 1000, 0), ((38, .aload_n 0, 1, 0, 0, 0, 0), 5, 0), ((39, .getfield 35, 3, 11, 0, 20, 567), 50, 0), ((42, .getfield 46, 3, 5, 9, 20, 746), 50, 0), ((45, .iload_n 2, 1, 0, 0, 0, 0), 1, 2), ((46, .dup2, 1, 0, 0, 0, 0), 58, 0), ((47, .iaload, 1, 0, 0, 0, 0), 52, 0)],
  [((48, .iconst 1, 1, 1, 0, 0, 0), 12, 0), ((49, .iadd, 1, 0, 0, 0, 0), 16, 0), ((50, .iastore, 1, 0, 0, 0, 0), 53, 0), ((51, .aload_n 0, 1, 0, 0, 0, 0), 5, 0), ((52, .getfield 13, 3, 11, 1, 20, 560), 50, 0), ((55, .aload_n 0, 1, 0, 0, 0, 0), 5, 0), ((56, .getfield 43, 3, 11, 3, 0, 569), 50, 0), ((59, .iload_n 1, 1, 0, 0, 0, 0), 1, 1), ((60, .iastore, 1, 0, 0, 0, 0), 53, 0), ((61, .aload_n 0, 1, 0, 0, 0, 0), 5, 0), ((62, .getfield 17, 3, 11, 2, 20, 561), 50, 0)],
  [((65, .aload_n 0, 1, 0, 0, 0, 0), 5, 0), ((66, .getfield 43, 3, 11, 3, 0, 569), 50, 0), ((69, .iconst (-1), 1, 4294967295, 0, 0, 0), 12, 0), ((70, .iastore, 1, 0, 0, 0, 0), 53, 0), ((71, .aload_n 0, 1, 0, 0, 0, 0), 5, 0), ((72, .dup, 1, 0, 0, 0, 0), 35, 0), ((73, .getfield 43, 3, 11, 3, 0, 569), 50, 0), ((76, .iconst 1, 1, 1, 0, 0, 0), 12, 0), ((77, .iadd, 1, 0, 0, 0, 0), 16, 0), ((78, .putfield 43, 3, 11, 3, 0, 569), 51, 0)],
  [((81, .iconst 1, 1, 1, 0, 0, 0), 12, 0), ((82, .ireturn, 1, 0, 0, 0, 0), 1000, 0)]])
def al_mX7_reveal : ev_MeK := (al_yX7_reveal, prog_9_method_12_code, 4, none, [[((0, .iload_n 1, 1, 0, 0, 0, 0), 1, 1), ((1, .istore_n 3, 1, 0, 0, 0, 0), 7, 3), ((2, .iload_n 3, 1, 0, 0, 0, 0), 1, 3), ((3, .aload_n 0, 1, 0, 0, 0, 0), 5, 0), ((4, .getfield 43, 3, 11, 3, 0, 569), 50, 0), ((7, .if_icmp .ge 20, 3, 27, 0, 0, 0), 47, 0), ((10, .aload_n 0, 1, 0, 0, 0, 0), 5, 0), ((11, .getfield 17, 3, 11, 2, 20, 561), 50, 0), ((14, .iload_n 3, 1, 0, 0, 0, 0), 1, 3), ((15, .iload_n 2, 1, 0, 0, 0, 0), 1, 2)],
  [((16, .iload_n 3, 1, 0, 0, 0, 0), 1, 3), ((17, .iadd, 1, 0, 0, 0, 0), 16, 0), ((18, .iload_n 1, 1, 0, 0, 0, 0), 1, 1), ((19, .isub, 1, 0, 0, 0, 0), 17, 0), ((20, .iastore, 1, 0, 0, 0, 0), 53, 0), ((21, .iinc 3 1, 3, 1, 0, 0, 0), 36, 3), ((24, .goto (-22), 3, 2, 0, 0, 0), 37, 0), ((27, .return_, 1, 0, 0, 0, 0), 1000, 0)]])
def al_mX7_close : ev_MeK := (al_yX7_close, prog_9_method_13_code, 2, none, [[((0, .aload_n 0, 1, 0, 0, 0, 0), 5, 0), ((1, .iload_n 1, 1, 0, 0, 0, 0), 1, 1), ((2, .putfield 43, 3, 11, 3, 0, 569), 51, 0), ((5, .return_, 1, 0, 0, 0, 0), 1000, 0)]])
def al_mX7_resolve : ev_MeK := (al_yX7_resolve, prog_9_method_14_code, 8, (some .boolean), [[((0, .aload_n 0, 1, 0, 0, 0, 0), 5, 0), ((1, .getfield 39, 3, 11, 8, 0, 568), 50, 0), ((4, .istore_n 2, 1, 0, 0, 0, 0), 7, 2), ((5, .iconst (-1), 1, 4294967295, 0, 0, 0), 12, 0), ((6, .istore_n 3, 1, 0, 0, 0, 0), 7, 3), ((7, .iconst (-1), 1, 4294967295, 0, 0, 0), 12, 0), ((8, .istore 4, 2, 0, 0, 0, 0), 6, 4), ((10, .iload_n 2, 1, 0, 0, 0, 0), 1, 2), ((11, .ifCond .lt 49, 3, 60, 0, 0, 0), 40, 0), ((14, .aload_n 0, 1, 0, 0, 0, 0), 5, 0), ((15, .iload_n 2, 1, 0, 0, 0, 0), 1, 2)],
  [((16, .iload_n 1, 1, 0, 0, 0, 0), 1, 1), ((17, .invokevirtual 49, 3, 170, 3, 11, 747), 56, 0), ((20, .istore_n 3, 1, 0, 0, 0, 0), 7, 3), ((21, .iload_n 3, 1, 0, 0, 0, 0), 1, 3), ((22, .ifCond .lt 7, 3, 29, 0, 0, 0), 40, 0), ((25, .iconst (-1), 1, 4294967295, 0, 0, 0), 12, 0), ((26, .goto 14, 3, 40, 0, 0, 0), 37, 0), ((29, .aload_n 0, 1, 0, 0, 0, 0), 5, 0), ((30, .aload_n 0, 1, 0, 0, 0, 0), 5, 0), ((31, .getfield 20, 3, 11, 4, 20, 562), 50, 0)],
  [((34, .iload_n 2, 1, 0, 0, 0, 0), 1, 2), ((35, .iaload, 1, 0, 0, 0, 0), 52, 0), ((36, .iload_n 1, 1, 0, 0, 0, 0), 1, 1), ((37, .invokevirtual 53, 3, 171, 3, 11, 748), 56, 0), ((40, .istore 4, 2, 0, 0, 0, 0), 6, 4), ((42, .iload_n 3, 1, 0, 0, 0, 0), 1, 3), ((43, .ifCond .ge 17, 3, 60, 0, 0, 0), 41, 0), ((46, .iload 4, 2, 0, 0, 0, 0), 0, 4)],
  [((48, .ifCond .lt 6, 3, 54, 0, 0, 0), 40, 0), ((51, .goto 9, 3, 60, 0, 0, 0), 37, 0), ((54, .iinc 2 (-1), 3, 4294967295, 0, 0, 0), 36, 2), ((57, .goto (-47), 3, 10, 0, 0, 0), 37, 0), ((60, .iload_n 2, 1, 0, 0, 0, 0), 1, 2), ((61, .ifCond .ge 16, 3, 77, 0, 0, 0), 41, 0)],
  [((64, .aload_n 0, 1, 0, 0, 0, 0), 5, 0), ((65, .bipush 9, 2, 9, 0, 0, 0), 13, 0), ((67, .putfield 56, 3, 11, 10, 0, 749), 51, 0), ((70, .aload_n 0, 1, 0, 0, 0, 0), 5, 0), ((71, .iload_n 1, 1, 0, 0, 0, 0), 1, 1), ((72, .putfield 59, 3, 11, 11, 0, 750), 51, 0), ((75, .iconst 1, 1, 1, 0, 0, 0), 12, 0), ((76, .ireturn, 1, 0, 0, 0, 0), 1000, 0), ((77, .iload_n 2, 1, 0, 0, 0, 0), 1, 2), ((78, .iconst 1, 1, 1, 0, 0, 0), 12, 0), ((79, .iadd, 1, 0, 0, 0, 0), 16, 0)],
  [((80, .istore 5, 2, 0, 0, 0, 0), 6, 5), ((82, .iload 5, 2, 0, 0, 0, 0), 0, 5), ((84, .aload_n 0, 1, 0, 0, 0, 0), 5, 0), ((85, .getfield 39, 3, 11, 8, 0, 568), 50, 0), ((88, .if_icmp .gt 101, 3, 189, 0, 0, 0), 48, 0), ((91, .aload_n 0, 1, 0, 0, 0, 0), 5, 0), ((92, .getfield 20, 3, 11, 4, 20, 562), 50, 0), ((95, .iload 5, 2, 0, 0, 0, 0), 0, 5)],
  [((97, .iaload, 1, 0, 0, 0, 0), 52, 0), ((98, .istore 6, 2, 0, 0, 0, 0), 6, 6), ((100, .aload_n 0, 1, 0, 0, 0, 0), 5, 0), ((101, .getfield 35, 3, 11, 0, 20, 567), 50, 0), ((104, .getfield 62, 3, 5, 10, 20, 751), 50, 0), ((107, .iload 6, 2, 0, 0, 0, 0), 0, 6), ((109, .iaload, 1, 0, 0, 0, 0), 52, 0), ((110, .istore 7, 2, 0, 0, 0, 0), 6, 7)],
  [((112, .iload 7, 2, 0, 0, 0, 0), 0, 7), ((114, .bipush 30, 2, 30, 0, 0, 0), 13, 0), ((116, .if_icmp .lt 5, 3, 121, 0, 0, 0), 46, 0), ((119, .iconst 0, 1, 0, 0, 0, 0), 12, 0), ((120, .ireturn, 1, 0, 0, 0, 0), 1000, 0), ((121, .aload_n 0, 1, 0, 0, 0, 0), 5, 0), ((122, .getfield 35, 3, 11, 0, 20, 567), 50, 0), ((125, .getfield 65, 3, 5, 13, 20, 752), 50, 0)],
  [((128, .iload 6, 2, 0, 0, 0, 0), 0, 6), ((130, .bipush 30, 2, 30, 0, 0, 0), 13, 0), ((132, .imul, 1, 0, 0, 0, 0), 18, 0), ((133, .iload 7, 2, 0, 0, 0, 0), 0, 7), ((135, .iadd, 1, 0, 0, 0, 0), 16, 0), ((136, .iload_n 3, 1, 0, 0, 0, 0), 1, 3), ((137, .ifCond .lt 7, 3, 144, 0, 0, 0), 40, 0), ((140, .iload_n 3, 1, 0, 0, 0, 0), 1, 3), ((141, .goto 7, 3, 148, 0, 0, 0), 37, 0)],
  [((144, .iload 4, 2, 0, 0, 0, 0), 0, 4), ((146, .iconst (-1), 1, 4294967295, 0, 0, 0), 12, 0), ((147, .ixor, 1, 0, 0, 0, 0), 21, 0), ((148, .iastore, 1, 0, 0, 0, 0), 53, 0), ((149, .aload_n 0, 1, 0, 0, 0, 0), 5, 0), ((150, .getfield 32, 3, 11, 9, 20, 566), 50, 0), ((153, .iload 6, 2, 0, 0, 0, 0), 0, 6), ((155, .bipush 30, 2, 30, 0, 0, 0), 13, 0), ((157, .imul, 1, 0, 0, 0, 0), 18, 0), ((158, .iload 7, 2, 0, 0, 0, 0), 0, 7)],
  [((160, .iadd, 1, 0, 0, 0, 0), 16, 0), ((161, .iload_n 1, 1, 0, 0, 0, 0), 1, 1), ((162, .iastore, 1, 0, 0, 0, 0), 53, 0), ((163, .aload_n 0, 1, 0, 0, 0, 0), 5, 0), ((164, .getfield 35, 3, 11, 0, 20, 567), 50, 0), ((167, .getfield 62, 3, 5, 10, 20, 751), 50, 0), ((170, .iload 6, 2, 0, 0, 0, 0), 0, 6), ((172, .dup2, 1, 0, 0, 0, 0), 58, 0), ((173, .iaload, 1, 0, 0, 0, 0), 52, 0), ((174, .iconst 1, 1, 1, 0, 0, 0), 12, 0), ((175, .iadd, 1, 0, 0, 0, 0), 16, 0)],
  [((176, .iastore, 1, 0, 0, 0, 0), 53, 0), ((177, .iconst (-1), 1, 4294967295, 0, 0, 0), 12, 0), ((178, .istore_n 3, 1, 0, 0, 0, 0), 7, 3), ((179, .iload 7, 2, 0, 0, 0, 0), 0, 7), ((181, .istore 4, 2, 0, 0, 0, 0), 6, 4), ((183, .iinc 5 1, 3, 1, 0, 0, 0), 36, 5), ((186, .goto (-104), 3, 82, 0, 0, 0), 37, 0), ((189, .aload_n 0, 1, 0, 0, 0, 0), 5, 0), ((190, .iload_n 3, 1, 0, 0, 0, 0), 1, 3), ((191, .ifCond .lt 7, 3, 198, 0, 0, 0), 40, 0)],
  [((194, .iconst 5, 1, 5, 0, 0, 0), 12, 0), ((195, .goto 5, 3, 200, 0, 0, 0), 37, 0), ((198, .bipush 7, 2, 7, 0, 0, 0), 13, 0), ((200, .putfield 56, 3, 11, 10, 0, 749), 51, 0), ((203, .aload_n 0, 1, 0, 0, 0, 0), 5, 0), ((204, .iload_n 3, 1, 0, 0, 0, 0), 1, 3), ((205, .ifCond .lt 7, 3, 212, 0, 0, 0), 40, 0)],
  [((208, .iload_n 3, 1, 0, 0, 0, 0), 1, 3), ((209, .goto 5, 3, 214, 0, 0, 0), 37, 0), ((212, .iload 4, 2, 0, 0, 0, 0), 0, 4), ((214, .putfield 59, 3, 11, 11, 0, 750), 51, 0), ((217, .iconst 1, 1, 1, 0, 0, 0), 12, 0), ((218, .ireturn, 1, 0, 0, 0, 0), 1000, 0)]])
def al_mX7_slotOf : ev_MeK := (al_yX7_slotOf, prog_9_method_15_code, 5, (some .int), [[((0, .iload_n 1, 1, 0, 0, 0, 0), 1, 1), ((1, .aload_n 0, 1, 0, 0, 0, 0), 5, 0), ((2, .getfield 39, 3, 11, 8, 0, 568), 50, 0), ((5, .if_icmp .ne 10, 3, 15, 0, 0, 0), 45, 0), ((8, .aload_n 0, 1, 0, 0, 0, 0), 5, 0), ((9, .getfield 43, 3, 11, 3, 0, 569), 50, 0), ((12, .goto 11, 3, 23, 0, 0, 0), 37, 0), ((15, .aload_n 0, 1, 0, 0, 0, 0), 5, 0)],
  [((16, .getfield 23, 3, 11, 5, 20, 563), 50, 0), ((19, .iload_n 1, 1, 0, 0, 0, 0), 1, 1), ((20, .iconst 1, 1, 1, 0, 0, 0), 12, 0), ((21, .iadd, 1, 0, 0, 0, 0), 16, 0), ((22, .iaload, 1, 0, 0, 0, 0), 52, 0), ((23, .istore_n 3, 1, 0, 0, 0, 0), 7, 3), ((24, .iload_n 3, 1, 0, 0, 0, 0), 1, 3), ((25, .iconst 1, 1, 1, 0, 0, 0), 12, 0), ((26, .isub, 1, 0, 0, 0, 0), 17, 0), ((27, .istore 4, 2, 0, 0, 0, 0), 6, 4), ((29, .iload 4, 2, 0, 0, 0, 0), 0, 4), ((31, .aload_n 0, 1, 0, 0, 0, 0), 5, 0)],
  [((32, .getfield 23, 3, 11, 5, 20, 563), 50, 0), ((35, .iload_n 1, 1, 0, 0, 0, 0), 1, 1), ((36, .iaload, 1, 0, 0, 0, 0), 52, 0), ((37, .if_icmp .lt 39, 3, 76, 0, 0, 0), 46, 0), ((40, .aload_n 0, 1, 0, 0, 0, 0), 5, 0), ((41, .getfield 13, 3, 11, 1, 20, 560), 50, 0), ((44, .iload 4, 2, 0, 0, 0, 0), 0, 4), ((46, .iaload, 1, 0, 0, 0, 0), 52, 0), ((47, .iload_n 2, 1, 0, 0, 0, 0), 1, 2)],
  [((48, .if_icmp .ne 22, 3, 70, 0, 0, 0), 45, 0), ((51, .aload_n 0, 1, 0, 0, 0, 0), 5, 0), ((52, .getfield 17, 3, 11, 2, 20, 561), 50, 0), ((55, .iload 4, 2, 0, 0, 0, 0), 0, 4), ((57, .iaload, 1, 0, 0, 0, 0), 52, 0), ((58, .iconst (-1), 1, 4294967295, 0, 0, 0), 12, 0), ((59, .if_icmp .eq 11, 3, 70, 0, 0, 0), 44, 0), ((62, .aload_n 0, 1, 0, 0, 0, 0), 5, 0), ((63, .getfield 17, 3, 11, 2, 20, 561), 50, 0)],
  [((66, .iload 4, 2, 0, 0, 0, 0), 0, 4), ((68, .iaload, 1, 0, 0, 0, 0), 52, 0), ((69, .ireturn, 1, 0, 0, 0, 0), 1000, 0), ((70, .iinc 4 (-1), 3, 4294967295, 0, 0, 0), 36, 4), ((73, .goto (-44), 3, 29, 0, 0, 0), 37, 0), ((76, .iconst (-1), 1, 4294967295, 0, 0, 0), 12, 0), ((77, .ireturn, 1, 0, 0, 0, 0), 1000, 0)]])
def al_mX7_capturedOf : ev_MeK := (al_yX7_capturedOf, prog_9_method_16_code, 4, (some .int), [[((0, .iconst 0, 1, 0, 0, 0, 0), 12, 0), ((1, .istore_n 3, 1, 0, 0, 0, 0), 7, 3), ((2, .iload_n 3, 1, 0, 0, 0, 0), 1, 3), ((3, .aload_n 0, 1, 0, 0, 0, 0), 5, 0), ((4, .getfield 35, 3, 11, 0, 20, 567), 50, 0), ((7, .getfield 62, 3, 5, 10, 20, 751), 50, 0), ((10, .iload_n 1, 1, 0, 0, 0, 0), 1, 1), ((11, .iaload, 1, 0, 0, 0, 0), 52, 0), ((12, .if_icmp .ge 26, 3, 38, 0, 0, 0), 47, 0), ((15, .aload_n 0, 1, 0, 0, 0, 0), 5, 0)],
  [((16, .getfield 32, 3, 11, 9, 20, 566), 50, 0), ((19, .iload_n 1, 1, 0, 0, 0, 0), 1, 1), ((20, .bipush 30, 2, 30, 0, 0, 0), 13, 0), ((22, .imul, 1, 0, 0, 0, 0), 18, 0), ((23, .iload_n 3, 1, 0, 0, 0, 0), 1, 3), ((24, .iadd, 1, 0, 0, 0, 0), 16, 0), ((25, .iaload, 1, 0, 0, 0, 0), 52, 0), ((26, .iload_n 2, 1, 0, 0, 0, 0), 1, 2), ((27, .if_icmp .ne 5, 3, 32, 0, 0, 0), 45, 0), ((30, .iload_n 3, 1, 0, 0, 0, 0), 1, 3), ((31, .ireturn, 1, 0, 0, 0, 0), 1000, 0)],
  [((32, .iinc 3 1, 3, 1, 0, 0, 0), 36, 3), ((35, .goto (-33), 3, 2, 0, 0, 0), 37, 0), ((38, .iconst (-1), 1, 4294967295, 0, 0, 0), 12, 0), ((39, .ireturn, 1, 0, 0, 0, 0), 1000, 0)]])
def al_mX8_lengthOf : ev_MeK := (al_yX8_lengthOf, prog_10_method_3_code, 2, (some .int), [[((0, .aload_n 0, 1, 0, 0, 0, 0), 5, 0), ((1, .getfield 20, 3, 4, 2, 20, 13), 50, 0), ((4, .iload_n 1, 1, 0, 0, 0, 0), 1, 1), ((5, .iaload, 1, 0, 0, 0, 0), 52, 0), ((6, .ireturn, 1, 0, 0, 0, 0), 1000, 0)]])
def al_mX8_byteOf : ev_MeK := (al_yX8_byteOf, prog_10_method_4_code, 3, (some .int), [[((0, .aload_n 0, 1, 0, 0, 0, 0), 5, 0), ((1, .getfield 10, 3, 4, 0, 20, 14), 50, 0), ((4, .aload_n 0, 1, 0, 0, 0, 0), 5, 0), ((5, .getfield 16, 3, 4, 1, 20, 15), 50, 0), ((8, .iload_n 1, 1, 0, 0, 0, 0), 1, 1), ((9, .iaload, 1, 0, 0, 0, 0), 52, 0), ((10, .iload_n 2, 1, 0, 0, 0, 0), 1, 2), ((11, .iadd, 1, 0, 0, 0, 0), 16, 0), ((12, .baload, 1, 0, 0, 0, 0), 54, 0), ((13, .sipush 255, 3, 255, 0, 0, 0), 14, 0)],
  [((16, .iand, 1, 0, 0, 0, 0), 19, 0), ((17, .ireturn, 1, 0, 0, 0, 0), 1000, 0)]])
def al_mX8_has : ev_MeK := (al_yX8_has, prog_10_method_5_code, 4, (some .boolean), [[((0, .iconst 0, 1, 0, 0, 0, 0), 12, 0), ((1, .istore_n 3, 1, 0, 0, 0, 0), 7, 3), ((2, .iload_n 3, 1, 0, 0, 0, 0), 1, 3), ((3, .aload_n 0, 1, 0, 0, 0, 0), 5, 0), ((4, .getfield 20, 3, 4, 2, 20, 13), 50, 0), ((7, .iload_n 1, 1, 0, 0, 0, 0), 1, 1), ((8, .iaload, 1, 0, 0, 0, 0), 52, 0), ((9, .if_icmp .ge 21, 3, 30, 0, 0, 0), 47, 0), ((12, .aload_n 0, 1, 0, 0, 0, 0), 5, 0), ((13, .iload_n 1, 1, 0, 0, 0, 0), 1, 1), ((14, .iload_n 3, 1, 0, 0, 0, 0), 1, 3), ((15, .invokevirtual 71, 3, 173, 3, 4, 753), 56, 0)],
  [((18, .iload_n 2, 1, 0, 0, 0, 0), 1, 2), ((19, .if_icmp .ne 5, 3, 24, 0, 0, 0), 45, 0), ((22, .iconst 1, 1, 1, 0, 0, 0), 12, 0), ((23, .ireturn, 1, 0, 0, 0, 0), 1000, 0), ((24, .iinc 3 1, 3, 1, 0, 0, 0), 36, 3), ((27, .goto (-25), 3, 2, 0, 0, 0), 37, 0), ((30, .iconst 0, 1, 0, 0, 0, 0), 12, 0), ((31, .ireturn, 1, 0, 0, 0, 0), 1000, 0)]])
def al_mX8_compare : ev_MeK := (al_yX8_compare, prog_10_method_6_code, 6, (some .int), [[((0, .aload_n 0, 1, 0, 0, 0, 0), 5, 0), ((1, .getfield 20, 3, 4, 2, 20, 13), 50, 0), ((4, .iload_n 1, 1, 0, 0, 0, 0), 1, 1), ((5, .iaload, 1, 0, 0, 0, 0), 52, 0), ((6, .aload_n 0, 1, 0, 0, 0, 0), 5, 0), ((7, .getfield 20, 3, 4, 2, 20, 13), 50, 0), ((10, .iload_n 2, 1, 0, 0, 0, 0), 1, 2), ((11, .iaload, 1, 0, 0, 0, 0), 52, 0), ((12, .invokestatic 75, 3, 998, 0, 0, 414), 59, 0), ((15, .istore_n 3, 1, 0, 0, 0, 0), 7, 3)],
  [((16, .iconst 0, 1, 0, 0, 0, 0), 12, 0), ((17, .istore 4, 2, 0, 0, 0, 0), 6, 4), ((19, .iload 4, 2, 0, 0, 0, 0), 0, 4), ((21, .iload_n 3, 1, 0, 0, 0, 0), 1, 3), ((22, .if_icmp .ge 34, 3, 56, 0, 0, 0), 47, 0), ((25, .aload_n 0, 1, 0, 0, 0, 0), 5, 0), ((26, .iload_n 1, 1, 0, 0, 0, 0), 1, 1), ((27, .iload 4, 2, 0, 0, 0, 0), 0, 4), ((29, .invokevirtual 71, 3, 173, 3, 4, 753), 56, 0)],
  [((32, .aload_n 0, 1, 0, 0, 0, 0), 5, 0), ((33, .iload_n 2, 1, 0, 0, 0, 0), 1, 2), ((34, .iload 4, 2, 0, 0, 0, 0), 0, 4), ((36, .invokevirtual 71, 3, 173, 3, 4, 753), 56, 0), ((39, .isub, 1, 0, 0, 0, 0), 17, 0), ((40, .istore 5, 2, 0, 0, 0, 0), 6, 5), ((42, .iload 5, 2, 0, 0, 0, 0), 0, 5), ((44, .ifCond .eq 6, 3, 50, 0, 0, 0), 38, 0), ((47, .iload 5, 2, 0, 0, 0, 0), 0, 5)],
  [((49, .ireturn, 1, 0, 0, 0, 0), 1000, 0), ((50, .iinc 4 1, 3, 1, 0, 0, 0), 36, 4), ((53, .goto (-34), 3, 19, 0, 0, 0), 37, 0), ((56, .aload_n 0, 1, 0, 0, 0, 0), 5, 0), ((57, .getfield 20, 3, 4, 2, 20, 13), 50, 0), ((60, .iload_n 1, 1, 0, 0, 0, 0), 1, 1), ((61, .iaload, 1, 0, 0, 0, 0), 52, 0), ((62, .aload_n 0, 1, 0, 0, 0, 0), 5, 0), ((63, .getfield 20, 3, 4, 2, 20, 13), 50, 0)],
  [((66, .iload_n 2, 1, 0, 0, 0, 0), 1, 2), ((67, .iaload, 1, 0, 0, 0, 0), 52, 0), ((68, .isub, 1, 0, 0, 0, 0), 17, 0), ((69, .ireturn, 1, 0, 0, 0, 0), 1000, 0)]])
def al_mX8_rowLength : ev_MeK := (al_yX8_rowLength, prog_10_method_8_code, 1, (some .int), [[((0, .aload_n 0, 1, 0, 0, 0, 0), 5, 0), ((1, .getfield 63, 3, 4, 15, 0, 0), 50, 0), ((4, .ireturn, 1, 0, 0, 0, 0), 1000, 0)]])
def al_mX8_rowByte : ev_MeK := (al_yX8_rowByte, prog_10_method_9_code, 2, (some .int), [[((0, .aload_n 0, 1, 0, 0, 0, 0), 5, 0), ((1, .getfield 35, 3, 4, 14, 20, 1), 50, 0), ((4, .iload_n 1, 1, 0, 0, 0, 0), 1, 1), ((5, .baload, 1, 0, 0, 0, 0), 54, 0), ((6, .ireturn, 1, 0, 0, 0, 0), 1000, 0)]])
def al_mX8_putPiece : ev_MeK := (al_yX8_putPiece, prog_10_method_12_code, 5, none, [[((0, .iload_n 3, 1, 0, 0, 0, 0), 1, 3), ((1, .iload_n 2, 1, 0, 0, 0, 0), 1, 2), ((2, .isub, 1, 0, 0, 0, 0), 17, 0), ((3, .aload_n 0, 1, 0, 0, 0, 0), 5, 0), ((4, .getfield 35, 3, 4, 14, 20, 1), 50, 0), ((7, .arraylength, 1, 0, 0, 0, 0), 58, 0), ((8, .aload_n 0, 1, 0, 0, 0, 0), 5, 0), ((9, .getfield 63, 3, 4, 15, 0, 0), 50, 0), ((12, .isub, 1, 0, 0, 0, 0), 17, 0), ((13, .invokestatic 75, 3, 998, 0, 0, 414), 59, 0)],
  [((16, .iconst 0, 1, 0, 0, 0, 0), 12, 0), ((17, .invokestatic 80, 3, 997, 0, 0, 754), 59, 0), ((20, .istore 4, 2, 0, 0, 0, 0), 6, 4), ((22, .aload_n 0, 1, 0, 0, 0, 0), 5, 0), ((23, .getfield 10, 3, 4, 0, 20, 14), 50, 0), ((26, .aload_n 0, 1, 0, 0, 0, 0), 5, 0), ((27, .getfield 16, 3, 4, 1, 20, 15), 50, 0), ((30, .iload_n 1, 1, 0, 0, 0, 0), 1, 1), ((31, .iaload, 1, 0, 0, 0, 0), 52, 0)],
  [((32, .iload_n 2, 1, 0, 0, 0, 0), 1, 2), ((33, .iadd, 1, 0, 0, 0, 0), 16, 0), ((34, .aload_n 0, 1, 0, 0, 0, 0), 5, 0), ((35, .getfield 35, 3, 4, 14, 20, 1), 50, 0), ((38, .aload_n 0, 1, 0, 0, 0, 0), 5, 0), ((39, .getfield 63, 3, 4, 15, 0, 0), 50, 0), ((42, .iload 4, 2, 0, 0, 0, 0), 0, 4), ((44, .invokestatic 83, 3, 999, 0, 0, 19), 59, 0), ((47, .aload_n 0, 1, 0, 0, 0, 0), 5, 0)],
  [((48, .dup, 1, 0, 0, 0, 0), 35, 0), ((49, .getfield 63, 3, 4, 15, 0, 0), 50, 0), ((52, .iload 4, 2, 0, 0, 0, 0), 0, 4), ((54, .iadd, 1, 0, 0, 0, 0), 16, 0), ((55, .putfield 63, 3, 4, 15, 0, 0), 51, 0), ((58, .return_, 1, 0, 0, 0, 0), 1000, 0)]])
def al_mX8_putString : ev_MeK := (al_yX8_putString, prog_10_method_13_code, 2, none, [[((0, .aload_n 0, 1, 0, 0, 0, 0), 5, 0), ((1, .iload_n 1, 1, 0, 0, 0, 0), 1, 1), ((2, .iconst 0, 1, 0, 0, 0, 0), 12, 0), ((3, .aload_n 0, 1, 0, 0, 0, 0), 5, 0), ((4, .getfield 20, 3, 4, 2, 20, 13), 50, 0), ((7, .iload_n 1, 1, 0, 0, 0, 0), 1, 1), ((8, .iaload, 1, 0, 0, 0, 0), 52, 0), ((9, .invokevirtual 89, 3, 178, 4, 4, 758), 56, 0), ((12, .return_, 1, 0, 0, 0, 0), 1000, 0)]])
def al_mX8_putWhole : ev_MeK := (al_yX8_putWhole, prog_10_method_14_code, 9, none, [[((0, .lload_n 1, 1, 0, 0, 0, 0), 3, 1), ((1, .lconst 0, 1, 0, 0, 0, 0), 15, 0), ((2, .lcmp, 1, 0, 0, 0, 0), 32, 0), ((3, .ifCond .ge 9, 3, 12, 0, 0, 0), 41, 0), ((6, .aload_n 0, 1, 0, 0, 0, 0), 5, 0), ((7, .bipush 45, 2, 45, 0, 0, 0), 13, 0), ((9, .invokevirtual 67, 3, 0, 2, 4, 31), 56, 0), ((12, .aload_n 0, 1, 0, 0, 0, 0), 5, 0), ((13, .getfield 63, 3, 4, 15, 0, 0), 50, 0)],
  [((16, .istore_n 3, 1, 0, 0, 0, 0), 7, 3), ((17, .lload_n 1, 1, 0, 0, 0, 0), 3, 1), ((18, .lstore 4, 2, 0, 0, 0, 0), 8, 4), ((20, .iconst 0, 1, 0, 0, 0, 0), 12, 0), ((21, .istore 6, 2, 0, 0, 0, 0), 6, 6), ((23, .iload 6, 2, 0, 0, 0, 0), 0, 6), ((25, .bipush 20, 2, 20, 0, 0, 0), 13, 0), ((27, .if_icmp .ge 46, 3, 73, 0, 0, 0), 47, 0), ((30, .iload 6, 2, 0, 0, 0, 0), 0, 6)],
  [((32, .ifCond .eq 10, 3, 42, 0, 0, 0), 38, 0), ((35, .lload 4, 2, 0, 0, 0, 0), 2, 4), ((37, .lconst 0, 1, 0, 0, 0, 0), 15, 0), ((38, .lcmp, 1, 0, 0, 0, 0), 32, 0), ((39, .ifCond .eq 34, 3, 73, 0, 0, 0), 38, 0), ((42, .aload_n 0, 1, 0, 0, 0, 0), 5, 0), ((43, .bipush 48, 2, 48, 0, 0, 0), 13, 0), ((45, .lload 4, 2, 0, 0, 0, 0), 2, 4), ((47, .ldc2_w 93, 3, 10, 0, 0, 759), 58, 0)],
  [((50, .lrem, 1, 0, 0, 0, 0), 58, 0), ((54, .l2i, 1, 0, 0, 0, 0), 33, 0), ((55, .iadd, 1, 0, 0, 0, 0), 16, 0), ((56, .invokevirtual 67, 3, 0, 2, 4, 31), 56, 0), ((59, .lload 4, 2, 0, 0, 0, 0), 2, 4), ((61, .ldc2_w 93, 3, 10, 0, 0, 759), 58, 0)],
  [((64, .ldiv, 1, 0, 0, 0, 0), 58, 0), ((65, .lstore 4, 2, 0, 0, 0, 0), 8, 4), ((67, .iinc 6 1, 3, 1, 0, 0, 0), 36, 6), ((70, .goto (-47), 3, 23, 0, 0, 0), 37, 0), ((73, .iload_n 3, 1, 0, 0, 0, 0), 1, 3), ((74, .istore 6, 2, 0, 0, 0, 0), 6, 6), ((76, .aload_n 0, 1, 0, 0, 0, 0), 5, 0), ((77, .getfield 63, 3, 4, 15, 0, 0), 50, 0)],
  [((80, .iconst 1, 1, 1, 0, 0, 0), 12, 0), ((81, .isub, 1, 0, 0, 0, 0), 17, 0), ((82, .istore 7, 2, 0, 0, 0, 0), 6, 7), ((84, .iload 6, 2, 0, 0, 0, 0), 0, 6), ((86, .iload 7, 2, 0, 0, 0, 0), 0, 7), ((88, .if_icmp .ge 44, 3, 132, 0, 0, 0), 47, 0), ((91, .aload_n 0, 1, 0, 0, 0, 0), 5, 0), ((92, .getfield 35, 3, 4, 14, 20, 1), 50, 0), ((95, .iload 6, 2, 0, 0, 0, 0), 0, 6)],
  [((97, .baload, 1, 0, 0, 0, 0), 54, 0), ((98, .istore 8, 2, 0, 0, 0, 0), 6, 8), ((100, .aload_n 0, 1, 0, 0, 0, 0), 5, 0), ((101, .getfield 35, 3, 4, 14, 20, 1), 50, 0), ((104, .iload 6, 2, 0, 0, 0, 0), 0, 6), ((106, .aload_n 0, 1, 0, 0, 0, 0), 5, 0), ((107, .getfield 35, 3, 4, 14, 20, 1), 50, 0), ((110, .iload 7, 2, 0, 0, 0, 0), 0, 7)],
  [((112, .baload, 1, 0, 0, 0, 0), 54, 0), ((113, .bastore, 1, 0, 0, 0, 0), 55, 0), ((114, .aload_n 0, 1, 0, 0, 0, 0), 5, 0), ((115, .getfield 35, 3, 4, 14, 20, 1), 50, 0), ((118, .iload 7, 2, 0, 0, 0, 0), 0, 7), ((120, .iload 8, 2, 0, 0, 0, 0), 0, 8), ((122, .bastore, 1, 0, 0, 0, 0), 55, 0), ((123, .iinc 6 1, 3, 1, 0, 0, 0), 36, 6), ((126, .iinc 7 (-1), 3, 4294967295, 0, 0, 0), 36, 7)],
  [((129, .goto (-45), 3, 84, 0, 0, 0), 37, 0), ((132, .return_, 1, 0, 0, 0, 0), 1000, 0)]])
def al_mX8_keepTextual : ev_MeK := (al_yX8_keepTextual, prog_10_method_17_code, 2, (some .int), [[((0, .aload_n 0, 1, 0, 0, 0, 0), 5, 0), ((1, .invokevirtual 99, 3, 8, 1, 4, 24), 56, 0), ((4, .istore_n 1, 1, 0, 0, 0, 0), 7, 1), ((5, .iload_n 1, 1, 0, 0, 0, 0), 1, 1), ((6, .iconst (-1), 1, 4294967295, 0, 0, 0), 12, 0), ((7, .if_icmp .ne 18, 3, 25, 0, 0, 0), 45, 0), ((10, .aload_n 0, 1, 0, 0, 0, 0), 5, 0), ((11, .invokevirtual 102, 3, 9, 1, 4, 25), 56, 0), ((14, .istore_n 1, 1, 0, 0, 0, 0), 7, 1), ((15, .aload_n 0, 1, 0, 0, 0, 0), 5, 0)],
  [((16, .getfield 32, 3, 4, 7, 20, 26), 50, 0), ((19, .iload_n 1, 1, 0, 0, 0, 0), 1, 1), ((20, .iconst 3, 1, 3, 0, 0, 0), 12, 0), ((21, .bastore, 1, 0, 0, 0, 0), 55, 0), ((22, .goto 20, 3, 42, 0, 0, 0), 37, 0), ((25, .aload_n 0, 1, 0, 0, 0, 0), 5, 0), ((26, .getfield 32, 3, 4, 7, 20, 26), 50, 0), ((29, .iload_n 1, 1, 0, 0, 0, 0), 1, 1), ((30, .baload, 1, 0, 0, 0, 0), 54, 0), ((31, .iconst 2, 1, 2, 0, 0, 0), 12, 0)],
  [((32, .if_icmp .ne 10, 3, 42, 0, 0, 0), 45, 0), ((35, .aload_n 0, 1, 0, 0, 0, 0), 5, 0), ((36, .getfield 32, 3, 4, 7, 20, 26), 50, 0), ((39, .iload_n 1, 1, 0, 0, 0, 0), 1, 1), ((40, .iconst 3, 1, 3, 0, 0, 0), 12, 0), ((41, .bastore, 1, 0, 0, 0, 0), 55, 0), ((42, .aload_n 0, 1, 0, 0, 0, 0), 5, 0), ((43, .aload_n 0, 1, 0, 0, 0, 0), 5, 0), ((44, .getfield 105, 3, 4, 8, 0, 17), 50, 0), ((47, .putfield 111, 3, 4, 11, 0, 28), 51, 0)],
  [((50, .iload_n 1, 1, 0, 0, 0, 0), 1, 1), ((51, .ireturn, 1, 0, 0, 0, 0), 1000, 0)]])
def al_mX8_wordOfRow : ev_MeK := (al_yX8_wordOfRow, prog_10_method_18_code, 2, (some .int), [[((0, .aload_n 0, 1, 0, 0, 0, 0), 5, 0), ((1, .invokevirtual 99, 3, 8, 1, 4, 24), 56, 0), ((4, .istore_n 1, 1, 0, 0, 0, 0), 7, 1), ((5, .iload_n 1, 1, 0, 0, 0, 0), 1, 1), ((6, .ifCond .lt 15, 3, 21, 0, 0, 0), 40, 0), ((9, .iload_n 1, 1, 0, 0, 0, 0), 1, 1), ((10, .bipush 21, 2, 21, 0, 0, 0), 13, 0), ((12, .if_icmp .ge 9, 3, 21, 0, 0, 0), 47, 0), ((15, .iload_n 1, 1, 0, 0, 0, 0), 1, 1)],
  [((16, .iconst 0, 1, 0, 0, 0, 0), 12, 0), ((17, .isub, 1, 0, 0, 0, 0), 17, 0), ((18, .goto 4, 3, 22, 0, 0, 0), 37, 0), ((21, .iconst (-1), 1, 4294967295, 0, 0, 0), 12, 0), ((22, .ireturn, 1, 0, 0, 0, 0), 1000, 0)]])
def al_mX8_make : ev_MeK := (al_yX8_make, prog_10_method_19_code, 2, (some .int), [[((0, .aload_n 0, 1, 0, 0, 0, 0), 5, 0), ((1, .invokevirtual 99, 3, 8, 1, 4, 24), 56, 0), ((4, .istore_n 1, 1, 0, 0, 0, 0), 7, 1), ((5, .iload_n 1, 1, 0, 0, 0, 0), 1, 1), ((6, .iconst (-1), 1, 4294967295, 0, 0, 0), 12, 0), ((7, .if_icmp .eq 15, 3, 22, 0, 0, 0), 44, 0), ((10, .aload_n 0, 1, 0, 0, 0, 0), 5, 0), ((11, .getfield 32, 3, 4, 7, 20, 26), 50, 0), ((14, .iload_n 1, 1, 0, 0, 0, 0), 1, 1), ((15, .baload, 1, 0, 0, 0, 0), 54, 0)],
  [((16, .iconst 2, 1, 2, 0, 0, 0), 12, 0), ((17, .if_icmp .eq 5, 3, 22, 0, 0, 0), 44, 0), ((20, .iload_n 1, 1, 0, 0, 0, 0), 1, 1), ((21, .ireturn, 1, 0, 0, 0, 0), 1000, 0), ((22, .aload_n 0, 1, 0, 0, 0, 0), 5, 0), ((23, .getfield 114, 3, 4, 12, 0, 412), 50, 0), ((26, .sipush 800, 3, 800, 0, 0, 0), 14, 0), ((29, .if_icmp .ge 18, 3, 47, 0, 0, 0), 47, 0)],
  [((32, .aload_n 0, 1, 0, 0, 0, 0), 5, 0), ((33, .getfield 117, 3, 4, 13, 0, 413), 50, 0), ((36, .aload_n 0, 1, 0, 0, 0, 0), 5, 0), ((37, .getfield 63, 3, 4, 15, 0, 0), 50, 0), ((40, .iadd, 1, 0, 0, 0, 0), 16, 0), ((41, .sipush 24000, 3, 24000, 0, 0, 0), 14, 0), ((44, .if_icmp .le 5, 3, 49, 0, 0, 0), 49, 0), ((47, .iconst (-1), 1, 4294967295, 0, 0, 0), 12, 0)],
  [((48, .ireturn, 1, 0, 0, 0, 0), 1000, 0), ((49, .iload_n 1, 1, 0, 0, 0, 0), 1, 1), ((50, .iconst (-1), 1, 4294967295, 0, 0, 0), 12, 0), ((51, .if_icmp .ne 8, 3, 59, 0, 0, 0), 45, 0), ((54, .aload_n 0, 1, 0, 0, 0, 0), 5, 0), ((55, .invokevirtual 102, 3, 9, 1, 4, 25), 56, 0), ((58, .istore_n 1, 1, 0, 0, 0, 0), 7, 1), ((59, .aload_n 0, 1, 0, 0, 0, 0), 5, 0), ((60, .getfield 32, 3, 4, 7, 20, 26), 50, 0), ((63, .iload_n 1, 1, 0, 0, 0, 0), 1, 1)],
  [((64, .iconst 4, 1, 4, 0, 0, 0), 12, 0), ((65, .bastore, 1, 0, 0, 0, 0), 55, 0), ((66, .aload_n 0, 1, 0, 0, 0, 0), 5, 0), ((67, .dup, 1, 0, 0, 0, 0), 35, 0), ((68, .getfield 114, 3, 4, 12, 0, 412), 50, 0), ((71, .iconst 1, 1, 1, 0, 0, 0), 12, 0), ((72, .iadd, 1, 0, 0, 0, 0), 16, 0), ((73, .putfield 114, 3, 4, 12, 0, 412), 51, 0), ((76, .aload_n 0, 1, 0, 0, 0, 0), 5, 0), ((77, .dup, 1, 0, 0, 0, 0), 35, 0), ((78, .getfield 117, 3, 4, 13, 0, 413), 50, 0)],
  [((81, .aload_n 0, 1, 0, 0, 0, 0), 5, 0), ((82, .getfield 63, 3, 4, 15, 0, 0), 50, 0), ((85, .iadd, 1, 0, 0, 0, 0), 16, 0), ((86, .putfield 117, 3, 4, 13, 0, 413), 51, 0), ((89, .iload_n 1, 1, 0, 0, 0, 0), 1, 1), ((90, .ireturn, 1, 0, 0, 0, 0), 1000, 0)]])
def al_mX10_stop : ev_MeK := (al_yX10_stop, prog_12_method_3_code, 1, none, [[((0, .aload_n 0, 1, 0, 0, 0, 0), 5, 0), ((1, .iconst 5, 1, 5, 0, 0, 0), 12, 0), ((2, .putfield 32, 3, 9, 4, 0, 508), 51, 0), ((5, .return_, 1, 0, 0, 0, 0), 1000, 0)]])
def al_mX10_assignFollows : ev_MeK := (al_yX10_assignFollows, prog_12_method_5_code, 2, (some .boolean), [[((0, .aload_n 0, 1, 0, 0, 0, 0), 5, 0), ((1, .aload_n 0, 1, 0, 0, 0, 0), 5, 0), ((2, .getfield 23, 3, 9, 3, 0, 505), 50, 0), ((5, .invokevirtual 35, 3, 74, 2, 9, 509), 56, 0), ((8, .istore_n 1, 1, 0, 0, 0, 0), 7, 1), ((9, .aload_n 0, 1, 0, 0, 0, 0), 5, 0), ((10, .iload_n 1, 1, 0, 0, 0, 0), 1, 1), ((11, .invokevirtual 49, 3, 186, 2, 9, 513), 56, 0), ((14, .bipush 61, 2, 61, 0, 0, 0), 13, 0)],
  [((16, .if_icmp .ne 19, 3, 35, 0, 0, 0), 45, 0), ((19, .aload_n 0, 1, 0, 0, 0, 0), 5, 0), ((20, .iload_n 1, 1, 0, 0, 0, 0), 1, 1), ((21, .iconst 1, 1, 1, 0, 0, 0), 12, 0), ((22, .iadd, 1, 0, 0, 0, 0), 16, 0), ((23, .invokevirtual 49, 3, 186, 2, 9, 513), 56, 0), ((26, .bipush 61, 2, 61, 0, 0, 0), 13, 0), ((28, .if_icmp .eq 7, 3, 35, 0, 0, 0), 44, 0), ((31, .iconst 1, 1, 1, 0, 0, 0), 12, 0)],
  [((32, .goto 4, 3, 36, 0, 0, 0), 37, 0), ((35, .iconst 0, 1, 0, 0, 0, 0), 12, 0), ((36, .ireturn, 1, 0, 0, 0, 0), 1000, 0)]])
def al_mX10_byteAt : ev_MeK := (al_yX10_byteAt, prog_12_method_6_code, 2, (some .int), [[((0, .iload_n 1, 1, 0, 0, 0, 0), 1, 1), ((1, .aload_n 0, 1, 0, 0, 0, 0), 5, 0), ((2, .getfield 19, 3, 9, 2, 0, 504), 50, 0), ((5, .if_icmp .ge 12, 3, 17, 0, 0, 0), 47, 0), ((8, .aload_n 0, 1, 0, 0, 0, 0), 5, 0), ((9, .getfield 9, 3, 9, 0, 20, 502), 50, 0), ((12, .iload_n 1, 1, 0, 0, 0, 0), 1, 1), ((13, .baload, 1, 0, 0, 0, 0), 54, 0), ((14, .goto 4, 3, 18, 0, 0, 0), 37, 0)],
  [((17, .iconst (-1), 1, 4294967295, 0, 0, 0), 12, 0), ((18, .ireturn, 1, 0, 0, 0, 0), 1000, 0)]])
def al_mX10_isDigit : ev_MeK := (al_yX10_isDigit, prog_12_method_8_code, 1, (some .boolean), [[((0, .iload_n 0, 1, 0, 0, 0, 0), 1, 0), ((1, .bipush 48, 2, 48, 0, 0, 0), 13, 0), ((3, .if_icmp .lt 13, 3, 16, 0, 0, 0), 46, 0), ((6, .iload_n 0, 1, 0, 0, 0, 0), 1, 0), ((7, .bipush 57, 2, 57, 0, 0, 0), 13, 0), ((9, .if_icmp .gt 7, 3, 16, 0, 0, 0), 48, 0), ((12, .iconst 1, 1, 1, 0, 0, 0), 12, 0), ((13, .goto 4, 3, 17, 0, 0, 0), 37, 0)],
  [((16, .iconst 0, 1, 0, 0, 0, 0), 12, 0), ((17, .ireturn, 1, 0, 0, 0, 0), 1000, 0)]])
def al_mX10_isLetter : ev_MeK := (al_yX10_isLetter, prog_12_method_9_code, 1, (some .boolean), [[((0, .iload_n 0, 1, 0, 0, 0, 0), 1, 0), ((1, .bipush 97, 2, 97, 0, 0, 0), 13, 0), ((3, .if_icmp .lt 9, 3, 12, 0, 0, 0), 46, 0), ((6, .iload_n 0, 1, 0, 0, 0, 0), 1, 0), ((7, .bipush 122, 2, 122, 0, 0, 0), 13, 0), ((9, .if_icmp .le 21, 3, 30, 0, 0, 0), 49, 0), ((12, .iload_n 0, 1, 0, 0, 0, 0), 1, 0), ((13, .bipush 65, 2, 65, 0, 0, 0), 13, 0), ((15, .if_icmp .lt 9, 3, 24, 0, 0, 0), 46, 0)],
  [((18, .iload_n 0, 1, 0, 0, 0, 0), 1, 0), ((19, .bipush 90, 2, 90, 0, 0, 0), 13, 0), ((21, .if_icmp .le 9, 3, 30, 0, 0, 0), 49, 0), ((24, .iload_n 0, 1, 0, 0, 0, 0), 1, 0), ((25, .bipush 95, 2, 95, 0, 0, 0), 13, 0), ((27, .if_icmp .ne 7, 3, 34, 0, 0, 0), 45, 0), ((30, .iconst 1, 1, 1, 0, 0, 0), 12, 0), ((31, .goto 4, 3, 35, 0, 0, 0), 37, 0)],
  [((34, .iconst 0, 1, 0, 0, 0, 0), 12, 0), ((35, .ireturn, 1, 0, 0, 0, 0), 1000, 0)]])
def al_mX10_hexDigit : ev_MeK := (al_yX10_hexDigit, prog_12_method_10_code, 1, (some .int), [[((0, .iload_n 0, 1, 0, 0, 0, 0), 1, 0), ((1, .invokestatic 46, 3, 187, 1, 0, 512), 57, 0), ((4, .ifCond .eq 8, 3, 12, 0, 0, 0), 38, 0), ((7, .iload_n 0, 1, 0, 0, 0, 0), 1, 0), ((8, .bipush 48, 2, 48, 0, 0, 0), 13, 0), ((10, .isub, 1, 0, 0, 0, 0), 17, 0), ((11, .ireturn, 1, 0, 0, 0, 0), 1000, 0), ((12, .iload_n 0, 1, 0, 0, 0, 0), 1, 0), ((13, .bipush 97, 2, 97, 0, 0, 0), 13, 0), ((15, .if_icmp .lt 17, 3, 32, 0, 0, 0), 46, 0)],
  [((18, .iload_n 0, 1, 0, 0, 0, 0), 1, 0), ((19, .bipush 102, 2, 102, 0, 0, 0), 13, 0), ((21, .if_icmp .gt 11, 3, 32, 0, 0, 0), 48, 0), ((24, .iload_n 0, 1, 0, 0, 0, 0), 1, 0), ((25, .bipush 97, 2, 97, 0, 0, 0), 13, 0), ((27, .isub, 1, 0, 0, 0, 0), 17, 0), ((28, .bipush 10, 2, 10, 0, 0, 0), 13, 0), ((30, .iadd, 1, 0, 0, 0, 0), 16, 0), ((31, .ireturn, 1, 0, 0, 0, 0), 1000, 0)],
  [((32, .iload_n 0, 1, 0, 0, 0, 0), 1, 0), ((33, .bipush 65, 2, 65, 0, 0, 0), 13, 0), ((35, .if_icmp .lt 19, 3, 54, 0, 0, 0), 46, 0), ((38, .iload_n 0, 1, 0, 0, 0, 0), 1, 0), ((39, .bipush 70, 2, 70, 0, 0, 0), 13, 0), ((41, .if_icmp .gt 13, 3, 54, 0, 0, 0), 48, 0), ((44, .iload_n 0, 1, 0, 0, 0, 0), 1, 0), ((45, .bipush 65, 2, 65, 0, 0, 0), 13, 0), ((47, .isub, 1, 0, 0, 0, 0), 17, 0)],
  [((48, .bipush 10, 2, 10, 0, 0, 0), 13, 0), ((50, .iadd, 1, 0, 0, 0, 0), 16, 0), ((51, .goto 4, 3, 55, 0, 0, 0), 37, 0), ((54, .iconst (-1), 1, 4294967295, 0, 0, 0), 12, 0), ((55, .ireturn, 1, 0, 0, 0, 0), 1000, 0)]])
def al_mX10_scanName : ev_MeK := (al_yX10_scanName, prog_12_method_11_code, 3, none, [[((0, .aload_n 0, 1, 0, 0, 0, 0), 5, 0), ((1, .getfield 39, 3, 9, 5, 0, 510), 50, 0), ((4, .istore_n 1, 1, 0, 0, 0, 0), 7, 1), ((5, .aload_n 0, 1, 0, 0, 0, 0), 5, 0), ((6, .getfield 15, 3, 9, 1, 20, 503), 50, 0), ((9, .invokevirtual 52, 3, 10, 1, 4, 760), 56, 0), ((12, .iload_n 1, 1, 0, 0, 0, 0), 1, 1), ((13, .aload_n 0, 1, 0, 0, 0, 0), 5, 0), ((14, .getfield 19, 3, 9, 2, 0, 504), 50, 0)],
  [((17, .if_icmp .ge 46, 3, 63, 0, 0, 0), 47, 0), ((20, .aload_n 0, 1, 0, 0, 0, 0), 5, 0), ((21, .getfield 9, 3, 9, 0, 20, 502), 50, 0), ((24, .iload_n 1, 1, 0, 0, 0, 0), 1, 1), ((25, .baload, 1, 0, 0, 0, 0), 54, 0), ((26, .invokestatic 42, 3, 188, 1, 0, 511), 57, 0), ((29, .ifCond .ne 15, 3, 44, 0, 0, 0), 39, 0)],
  [((32, .aload_n 0, 1, 0, 0, 0, 0), 5, 0), ((33, .getfield 9, 3, 9, 0, 20, 502), 50, 0), ((36, .iload_n 1, 1, 0, 0, 0, 0), 1, 1), ((37, .baload, 1, 0, 0, 0, 0), 54, 0), ((38, .invokestatic 46, 3, 187, 1, 0, 512), 57, 0), ((41, .ifCond .eq 22, 3, 63, 0, 0, 0), 38, 0), ((44, .aload_n 0, 1, 0, 0, 0, 0), 5, 0), ((45, .getfield 15, 3, 9, 1, 20, 503), 50, 0)],
  [((48, .aload_n 0, 1, 0, 0, 0, 0), 5, 0), ((49, .getfield 9, 3, 9, 0, 20, 502), 50, 0), ((52, .iload_n 1, 1, 0, 0, 0, 0), 1, 1), ((53, .baload, 1, 0, 0, 0, 0), 54, 0), ((54, .invokevirtual 57, 3, 0, 2, 4, 761), 56, 0), ((57, .iinc 1 1, 3, 1, 0, 0, 0), 36, 1), ((60, .goto (-48), 3, 12, 0, 0, 0), 37, 0), ((63, .aload_n 0, 1, 0, 0, 0, 0), 5, 0)],
  [((64, .iload_n 1, 1, 0, 0, 0, 0), 1, 1), ((65, .putfield 23, 3, 9, 3, 0, 505), 51, 0), ((68, .aload_n 0, 1, 0, 0, 0, 0), 5, 0), ((69, .getfield 15, 3, 9, 1, 20, 503), 50, 0), ((72, .invokevirtual 61, 3, 182, 1, 4, 762), 56, 0), ((75, .istore_n 2, 1, 0, 0, 0, 0), 7, 2), ((76, .iload_n 2, 1, 0, 0, 0, 0), 1, 2), ((77, .iconst (-1), 1, 4294967295, 0, 0, 0), 12, 0), ((78, .if_icmp .eq 14, 3, 92, 0, 0, 0), 44, 0)],
  [((81, .aload_n 0, 1, 0, 0, 0, 0), 5, 0), ((82, .bipush 10, 2, 10, 0, 0, 0), 13, 0), ((84, .iload_n 2, 1, 0, 0, 0, 0), 1, 2), ((85, .iadd, 1, 0, 0, 0, 0), 16, 0), ((86, .putfield 32, 3, 9, 4, 0, 508), 51, 0), ((89, .goto 42, 3, 131, 0, 0, 0), 37, 0), ((92, .aload_n 0, 1, 0, 0, 0, 0), 5, 0), ((93, .getfield 23, 3, 9, 3, 0, 505), 50, 0)],
  [((96, .aload_n 0, 1, 0, 0, 0, 0), 5, 0), ((97, .getfield 39, 3, 9, 5, 0, 510), 50, 0), ((100, .isub, 1, 0, 0, 0, 0), 17, 0), ((101, .bipush 30, 2, 30, 0, 0, 0), 13, 0), ((103, .if_icmp .le 11, 3, 114, 0, 0, 0), 49, 0), ((106, .aload_n 0, 1, 0, 0, 0, 0), 5, 0), ((107, .iconst 1, 1, 1, 0, 0, 0), 12, 0), ((108, .putfield 32, 3, 9, 4, 0, 508), 51, 0), ((111, .goto 20, 3, 131, 0, 0, 0), 37, 0)],
  [((114, .aload_n 0, 1, 0, 0, 0, 0), 5, 0), ((115, .iconst 2, 1, 2, 0, 0, 0), 12, 0), ((116, .putfield 32, 3, 9, 4, 0, 508), 51, 0), ((119, .aload_n 0, 1, 0, 0, 0, 0), 5, 0), ((120, .aload_n 0, 1, 0, 0, 0, 0), 5, 0), ((121, .getfield 15, 3, 9, 1, 20, 503), 50, 0), ((124, .invokevirtual 65, 3, 181, 1, 4, 763), 56, 0), ((127, .i2l, 1, 0, 0, 0, 0), 26, 0)],
  [((128, .putfield 68, 3, 9, 8, 10, 764), 51, 0), ((131, .return_, 1, 0, 0, 0, 0), 1000, 0)]])
def al_mX10_scanNumber : ev_MeK := (al_yX10_scanNumber, prog_12_method_12_code, 6, none, [[((0, .aload_n 0, 1, 0, 0, 0, 0), 5, 0), ((1, .getfield 9, 3, 9, 0, 20, 502), 50, 0), ((4, .aload_n 0, 1, 0, 0, 0, 0), 5, 0), ((5, .getfield 39, 3, 9, 5, 0, 510), 50, 0), ((8, .baload, 1, 0, 0, 0, 0), 54, 0), ((9, .bipush 48, 2, 48, 0, 0, 0), 13, 0), ((11, .if_icmp .ne 22, 3, 33, 0, 0, 0), 45, 0), ((14, .aload_n 0, 1, 0, 0, 0, 0), 5, 0), ((15, .aload_n 0, 1, 0, 0, 0, 0), 5, 0)],
  [((16, .getfield 39, 3, 9, 5, 0, 510), 50, 0), ((19, .iconst 1, 1, 1, 0, 0, 0), 12, 0), ((20, .iadd, 1, 0, 0, 0, 0), 16, 0), ((21, .invokevirtual 49, 3, 186, 2, 9, 513), 56, 0), ((24, .bipush 120, 2, 120, 0, 0, 0), 13, 0), ((26, .if_icmp .ne 7, 3, 33, 0, 0, 0), 45, 0), ((29, .iconst 1, 1, 1, 0, 0, 0), 12, 0), ((30, .goto 4, 3, 34, 0, 0, 0), 37, 0)],
  [((33, .iconst 0, 1, 0, 0, 0, 0), 12, 0), ((34, .istore_n 1, 1, 0, 0, 0, 0), 7, 1), ((35, .iload_n 1, 1, 0, 0, 0, 0), 1, 1), ((36, .ifCond .eq 12, 3, 48, 0, 0, 0), 38, 0), ((39, .aload_n 0, 1, 0, 0, 0, 0), 5, 0), ((40, .getfield 39, 3, 9, 5, 0, 510), 50, 0), ((43, .iconst 2, 1, 2, 0, 0, 0), 12, 0), ((44, .iadd, 1, 0, 0, 0, 0), 16, 0), ((45, .goto 7, 3, 52, 0, 0, 0), 37, 0)],
  [((48, .aload_n 0, 1, 0, 0, 0, 0), 5, 0), ((49, .getfield 39, 3, 9, 5, 0, 510), 50, 0), ((52, .istore_n 2, 1, 0, 0, 0, 0), 7, 2), ((53, .iload_n 2, 1, 0, 0, 0, 0), 1, 2), ((54, .istore_n 3, 1, 0, 0, 0, 0), 7, 3), ((55, .iconst 1, 1, 1, 0, 0, 0), 12, 0), ((56, .istore 4, 2, 0, 0, 0, 0), 6, 4), ((58, .aload_n 0, 1, 0, 0, 0, 0), 5, 0), ((59, .lconst 0, 1, 0, 0, 0, 0), 15, 0), ((60, .putfield 68, 3, 9, 8, 10, 764), 51, 0), ((63, .iload_n 3, 1, 0, 0, 0, 0), 1, 3)],
  [((64, .aload_n 0, 1, 0, 0, 0, 0), 5, 0), ((65, .getfield 19, 3, 9, 2, 0, 504), 50, 0), ((68, .if_icmp .ge 117, 3, 185, 0, 0, 0), 47, 0), ((71, .iload_n 1, 1, 0, 0, 0, 0), 1, 1), ((72, .ifCond .eq 18, 3, 90, 0, 0, 0), 38, 0), ((75, .aload_n 0, 1, 0, 0, 0, 0), 5, 0), ((76, .getfield 9, 3, 9, 0, 20, 502), 50, 0), ((79, .iload_n 3, 1, 0, 0, 0, 0), 1, 3)],
  [((80, .baload, 1, 0, 0, 0, 0), 54, 0), ((81, .invokestatic 72, 3, 189, 1, 0, 765), 57, 0), ((84, .ifCond .lt 101, 3, 185, 0, 0, 0), 40, 0), ((87, .goto 15, 3, 102, 0, 0, 0), 37, 0), ((90, .aload_n 0, 1, 0, 0, 0, 0), 5, 0), ((91, .getfield 9, 3, 9, 0, 20, 502), 50, 0), ((94, .iload_n 3, 1, 0, 0, 0, 0), 1, 3), ((95, .baload, 1, 0, 0, 0, 0), 54, 0)],
  [((96, .invokestatic 46, 3, 187, 1, 0, 512), 57, 0), ((99, .ifCond .eq 86, 3, 185, 0, 0, 0), 38, 0), ((102, .aload_n 0, 1, 0, 0, 0, 0), 5, 0), ((103, .getfield 9, 3, 9, 0, 20, 502), 50, 0), ((106, .iload_n 3, 1, 0, 0, 0, 0), 1, 3), ((107, .baload, 1, 0, 0, 0, 0), 54, 0), ((108, .invokestatic 72, 3, 189, 1, 0, 765), 57, 0), ((111, .istore 5, 2, 0, 0, 0, 0), 6, 5)],
  [((113, .iload_n 1, 1, 0, 0, 0, 0), 1, 1), ((114, .ifCond .eq 20, 3, 134, 0, 0, 0), 38, 0), ((117, .aload_n 0, 1, 0, 0, 0, 0), 5, 0), ((118, .aload_n 0, 1, 0, 0, 0, 0), 5, 0), ((119, .getfield 68, 3, 9, 8, 10, 764), 50, 0), ((122, .iconst 4, 1, 4, 0, 0, 0), 12, 0), ((123, .lshl, 1, 0, 0, 0, 0), 58, 0), ((124, .iload 5, 2, 0, 0, 0, 0), 0, 5), ((126, .i2l, 1, 0, 0, 0, 0), 26, 0), ((127, .lor, 1, 0, 0, 0, 0), 58, 0)],
  [((128, .putfield 68, 3, 9, 8, 10, 764), 51, 0), ((131, .goto 48, 3, 179, 0, 0, 0), 37, 0), ((134, .iload 4, 2, 0, 0, 0, 0), 0, 4), ((136, .aload_n 0, 1, 0, 0, 0, 0), 5, 0), ((137, .getfield 68, 3, 9, 8, 10, 764), 50, 0), ((140, .ldc2_w 75, 3, 9223372036854775807, 0, 0, 766), 58, 0), ((143, .iload 5, 2, 0, 0, 0, 0), 0, 5)],
  [((145, .i2l, 1, 0, 0, 0, 0), 26, 0), ((146, .lsub, 1, 0, 0, 0, 0), 28, 0), ((147, .ldc2_w 77, 3, 10, 0, 0, 767), 58, 0), ((150, .ldiv, 1, 0, 0, 0, 0), 58, 0), ((151, .lcmp, 1, 0, 0, 0, 0), 32, 0), ((152, .ifCond .gt 7, 3, 159, 0, 0, 0), 42, 0), ((155, .iconst 1, 1, 1, 0, 0, 0), 12, 0), ((156, .goto 4, 3, 160, 0, 0, 0), 37, 0), ((159, .iconst 0, 1, 0, 0, 0, 0), 12, 0)],
  [((160, .iand, 1, 0, 0, 0, 0), 19, 0), ((161, .istore 4, 2, 0, 0, 0, 0), 6, 4), ((163, .aload_n 0, 1, 0, 0, 0, 0), 5, 0), ((164, .aload_n 0, 1, 0, 0, 0, 0), 5, 0), ((165, .getfield 68, 3, 9, 8, 10, 764), 50, 0), ((168, .ldc2_w 77, 3, 10, 0, 0, 767), 58, 0), ((171, .lmul, 1, 0, 0, 0, 0), 29, 0), ((172, .iload 5, 2, 0, 0, 0, 0), 0, 5), ((174, .i2l, 1, 0, 0, 0, 0), 26, 0), ((175, .ladd, 1, 0, 0, 0, 0), 27, 0)],
  [((176, .putfield 68, 3, 9, 8, 10, 764), 51, 0), ((179, .iinc 3 1, 3, 1, 0, 0, 0), 36, 3), ((182, .goto (-119), 3, 63, 0, 0, 0), 37, 0), ((185, .aload_n 0, 1, 0, 0, 0, 0), 5, 0), ((186, .iload_n 3, 1, 0, 0, 0, 0), 1, 3), ((187, .putfield 23, 3, 9, 3, 0, 505), 51, 0), ((190, .iload_n 3, 1, 0, 0, 0, 0), 1, 3), ((191, .iload_n 2, 1, 0, 0, 0, 0), 1, 2)],
  [((192, .isub, 1, 0, 0, 0, 0), 17, 0), ((193, .istore 5, 2, 0, 0, 0, 0), 6, 5), ((195, .iload 4, 2, 0, 0, 0, 0), 0, 4), ((197, .iload 5, 2, 0, 0, 0, 0), 0, 5), ((199, .iconst 1, 1, 1, 0, 0, 0), 12, 0), ((200, .if_icmp .lt 23, 3, 223, 0, 0, 0), 46, 0), ((203, .iload 5, 2, 0, 0, 0, 0), 0, 5), ((205, .iload_n 1, 1, 0, 0, 0, 0), 1, 1), ((206, .ifCond .eq 8, 3, 214, 0, 0, 0), 38, 0)],
  [((209, .bipush 16, 2, 16, 0, 0, 0), 13, 0), ((211, .goto 5, 3, 216, 0, 0, 0), 37, 0), ((214, .bipush 19, 2, 19, 0, 0, 0), 13, 0), ((216, .if_icmp .gt 7, 3, 223, 0, 0, 0), 48, 0), ((219, .iconst 1, 1, 1, 0, 0, 0), 12, 0), ((220, .goto 4, 3, 224, 0, 0, 0), 37, 0), ((223, .iconst 0, 1, 0, 0, 0, 0), 12, 0)],
  [((224, .iand, 1, 0, 0, 0, 0), 19, 0), ((225, .istore 4, 2, 0, 0, 0, 0), 6, 4), ((227, .iload 4, 2, 0, 0, 0, 0), 0, 4), ((229, .aload_n 0, 1, 0, 0, 0, 0), 5, 0), ((230, .iload_n 3, 1, 0, 0, 0, 0), 1, 3), ((231, .invokevirtual 49, 3, 186, 2, 9, 513), 56, 0), ((234, .invokestatic 42, 3, 188, 1, 0, 511), 57, 0), ((237, .ifCond .ne 18, 3, 255, 0, 0, 0), 39, 0)],
  [((240, .aload_n 0, 1, 0, 0, 0, 0), 5, 0), ((241, .iload_n 3, 1, 0, 0, 0, 0), 1, 3), ((242, .invokevirtual 49, 3, 186, 2, 9, 513), 56, 0), ((245, .invokestatic 46, 3, 187, 1, 0, 512), 57, 0), ((248, .ifCond .ne 7, 3, 255, 0, 0, 0), 39, 0), ((251, .iconst 1, 1, 1, 0, 0, 0), 12, 0), ((252, .goto 4, 3, 256, 0, 0, 0), 37, 0), ((255, .iconst 0, 1, 0, 0, 0, 0), 12, 0)],
  [((256, .iand, 1, 0, 0, 0, 0), 19, 0), ((257, .istore 4, 2, 0, 0, 0, 0), 6, 4), ((259, .aload_n 0, 1, 0, 0, 0, 0), 5, 0), ((260, .iload 4, 2, 0, 0, 0, 0), 0, 4), ((262, .ifCond .eq 7, 3, 269, 0, 0, 0), 38, 0), ((265, .iconst 3, 1, 3, 0, 0, 0), 12, 0), ((266, .goto 4, 3, 270, 0, 0, 0), 37, 0), ((269, .iconst 1, 1, 1, 0, 0, 0), 12, 0), ((270, .putfield 32, 3, 9, 4, 0, 508), 51, 0)],
  [((273, .return_, 1, 0, 0, 0, 0), 1000, 0)]])
def al_mX10_scanQuoted : ev_MeK := (al_yX10_scanQuoted, prog_12_method_13_code, 4, none, [[((0, .aload_n 0, 1, 0, 0, 0, 0), 5, 0), ((1, .getfield 9, 3, 9, 0, 20, 502), 50, 0), ((4, .aload_n 0, 1, 0, 0, 0, 0), 5, 0), ((5, .getfield 39, 3, 9, 5, 0, 510), 50, 0), ((8, .baload, 1, 0, 0, 0, 0), 54, 0), ((9, .istore_n 1, 1, 0, 0, 0, 0), 7, 1), ((10, .aload_n 0, 1, 0, 0, 0, 0), 5, 0), ((11, .getfield 39, 3, 9, 5, 0, 510), 50, 0), ((14, .iconst 1, 1, 1, 0, 0, 0), 12, 0), ((15, .iadd, 1, 0, 0, 0, 0), 16, 0)],
  [((16, .istore_n 2, 1, 0, 0, 0, 0), 7, 2), ((17, .aload_n 0, 1, 0, 0, 0, 0), 5, 0), ((18, .getfield 15, 3, 9, 1, 20, 503), 50, 0), ((21, .invokevirtual 52, 3, 10, 1, 4, 760), 56, 0), ((24, .iload_n 2, 1, 0, 0, 0, 0), 1, 2), ((25, .aload_n 0, 1, 0, 0, 0, 0), 5, 0), ((26, .getfield 19, 3, 9, 2, 0, 504), 50, 0), ((29, .if_icmp .ge 78, 3, 107, 0, 0, 0), 47, 0)],
  [((32, .aload_n 0, 1, 0, 0, 0, 0), 5, 0), ((33, .getfield 9, 3, 9, 0, 20, 502), 50, 0), ((36, .iload_n 2, 1, 0, 0, 0, 0), 1, 2), ((37, .baload, 1, 0, 0, 0, 0), 54, 0), ((38, .iload_n 1, 1, 0, 0, 0, 0), 1, 1), ((39, .if_icmp .eq 68, 3, 107, 0, 0, 0), 44, 0), ((42, .aload_n 0, 1, 0, 0, 0, 0), 5, 0), ((43, .getfield 9, 3, 9, 0, 20, 502), 50, 0), ((46, .iload_n 2, 1, 0, 0, 0, 0), 1, 2), ((47, .baload, 1, 0, 0, 0, 0), 54, 0)],
  [((48, .bipush 10, 2, 10, 0, 0, 0), 13, 0), ((50, .if_icmp .eq 57, 3, 107, 0, 0, 0), 44, 0), ((53, .aload_n 0, 1, 0, 0, 0, 0), 5, 0), ((54, .getfield 9, 3, 9, 0, 20, 502), 50, 0), ((57, .iload_n 2, 1, 0, 0, 0, 0), 1, 2), ((58, .baload, 1, 0, 0, 0, 0), 54, 0), ((59, .bipush 92, 2, 92, 0, 0, 0), 13, 0), ((61, .if_icmp .eq 22, 3, 83, 0, 0, 0), 44, 0)],
  [((64, .aload_n 0, 1, 0, 0, 0, 0), 5, 0), ((65, .getfield 15, 3, 9, 1, 20, 503), 50, 0), ((68, .aload_n 0, 1, 0, 0, 0, 0), 5, 0), ((69, .getfield 9, 3, 9, 0, 20, 502), 50, 0), ((72, .iload_n 2, 1, 0, 0, 0, 0), 1, 2), ((73, .baload, 1, 0, 0, 0, 0), 54, 0), ((74, .invokevirtual 57, 3, 0, 2, 4, 761), 56, 0), ((77, .iinc 2 1, 3, 1, 0, 0, 0), 36, 2)],
  [((80, .goto (-56), 3, 24, 0, 0, 0), 37, 0), ((83, .aload_n 0, 1, 0, 0, 0, 0), 5, 0), ((84, .iload_n 2, 1, 0, 0, 0, 0), 1, 2), ((85, .iconst 1, 1, 1, 0, 0, 0), 12, 0), ((86, .iadd, 1, 0, 0, 0, 0), 16, 0), ((87, .invokevirtual 79, 3, 193, 2, 9, 768), 56, 0), ((90, .istore_n 3, 1, 0, 0, 0, 0), 7, 3), ((91, .iload_n 3, 1, 0, 0, 0, 0), 1, 3), ((92, .ifCond .ne 6, 3, 98, 0, 0, 0), 39, 0), ((95, .goto 12, 3, 107, 0, 0, 0), 37, 0)],
  [((98, .iload_n 2, 1, 0, 0, 0, 0), 1, 2), ((99, .iconst 1, 1, 1, 0, 0, 0), 12, 0), ((100, .iload_n 3, 1, 0, 0, 0, 0), 1, 3), ((101, .iadd, 1, 0, 0, 0, 0), 16, 0), ((102, .iadd, 1, 0, 0, 0, 0), 16, 0), ((103, .istore_n 2, 1, 0, 0, 0, 0), 7, 2), ((104, .goto (-80), 3, 24, 0, 0, 0), 37, 0), ((107, .aload_n 0, 1, 0, 0, 0, 0), 5, 0), ((108, .iconst 1, 1, 1, 0, 0, 0), 12, 0), ((109, .putfield 32, 3, 9, 4, 0, 508), 51, 0)],
  [((112, .aload_n 0, 1, 0, 0, 0, 0), 5, 0), ((113, .iload_n 2, 1, 0, 0, 0, 0), 1, 2), ((114, .putfield 23, 3, 9, 3, 0, 505), 51, 0), ((117, .aload_n 0, 1, 0, 0, 0, 0), 5, 0), ((118, .iload_n 2, 1, 0, 0, 0, 0), 1, 2), ((119, .invokevirtual 49, 3, 186, 2, 9, 513), 56, 0), ((122, .iload_n 1, 1, 0, 0, 0, 0), 1, 1), ((123, .if_icmp .ne 40, 3, 163, 0, 0, 0), 45, 0), ((126, .aload_n 0, 1, 0, 0, 0, 0), 5, 0), ((127, .getfield 15, 3, 9, 1, 20, 503), 50, 0)],
  [((130, .invokevirtual 82, 3, 176, 1, 4, 769), 56, 0), ((133, .sipush 200, 3, 200, 0, 0, 0), 14, 0), ((136, .if_icmp .gt 27, 3, 163, 0, 0, 0), 48, 0), ((139, .aload_n 0, 1, 0, 0, 0, 0), 5, 0), ((140, .iconst 4, 1, 4, 0, 0, 0), 12, 0), ((141, .putfield 32, 3, 9, 4, 0, 508), 51, 0)],
  [((144, .aload_n 0, 1, 0, 0, 0, 0), 5, 0), ((145, .iload_n 2, 1, 0, 0, 0, 0), 1, 2), ((146, .iconst 1, 1, 1, 0, 0, 0), 12, 0), ((147, .iadd, 1, 0, 0, 0, 0), 16, 0), ((148, .putfield 23, 3, 9, 3, 0, 505), 51, 0), ((151, .aload_n 0, 1, 0, 0, 0, 0), 5, 0), ((152, .aload_n 0, 1, 0, 0, 0, 0), 5, 0), ((153, .getfield 15, 3, 9, 1, 20, 503), 50, 0), ((156, .invokevirtual 65, 3, 181, 1, 4, 763), 56, 0), ((159, .i2l, 1, 0, 0, 0, 0), 26, 0)],
  [((160, .putfield 68, 3, 9, 8, 10, 764), 51, 0), ((163, .return_, 1, 0, 0, 0, 0), 1000, 0)]])
def al_mX10_escape : ev_MeK := (al_yX10_escape, prog_12_method_14_code, 5, (some .int), [[((0, .aload_n 0, 1, 0, 0, 0, 0), 5, 0), ((1, .iload_n 1, 1, 0, 0, 0, 0), 1, 1), ((2, .invokevirtual 49, 3, 186, 2, 9, 513), 56, 0), ((5, .istore_n 2, 1, 0, 0, 0, 0), 7, 2), ((6, .iload_n 2, 1, 0, 0, 0, 0), 1, 2), ((7, .bipush 110, 2, 110, 0, 0, 0), 13, 0), ((9, .if_icmp .eq 9, 3, 18, 0, 0, 0), 44, 0), ((12, .iload_n 2, 1, 0, 0, 0, 0), 1, 2), ((13, .bipush 116, 2, 116, 0, 0, 0), 13, 0), ((15, .if_icmp .ne 25, 3, 40, 0, 0, 0), 45, 0)],
  [((18, .aload_n 0, 1, 0, 0, 0, 0), 5, 0), ((19, .getfield 15, 3, 9, 1, 20, 503), 50, 0), ((22, .iload_n 2, 1, 0, 0, 0, 0), 1, 2), ((23, .bipush 110, 2, 110, 0, 0, 0), 13, 0), ((25, .if_icmp .ne 8, 3, 33, 0, 0, 0), 45, 0), ((28, .bipush 10, 2, 10, 0, 0, 0), 13, 0), ((30, .goto 5, 3, 35, 0, 0, 0), 37, 0)],
  [((33, .bipush 9, 2, 9, 0, 0, 0), 13, 0), ((35, .invokevirtual 57, 3, 0, 2, 4, 761), 56, 0), ((38, .iconst 1, 1, 1, 0, 0, 0), 12, 0), ((39, .ireturn, 1, 0, 0, 0, 0), 1000, 0), ((40, .iload_n 2, 1, 0, 0, 0, 0), 1, 2), ((41, .bipush 92, 2, 92, 0, 0, 0), 13, 0), ((43, .if_icmp .eq 15, 3, 58, 0, 0, 0), 44, 0), ((46, .iload_n 2, 1, 0, 0, 0, 0), 1, 2), ((47, .bipush 34, 2, 34, 0, 0, 0), 13, 0)],
  [((49, .if_icmp .eq 9, 3, 58, 0, 0, 0), 44, 0), ((52, .iload_n 2, 1, 0, 0, 0, 0), 1, 2), ((53, .bipush 39, 2, 39, 0, 0, 0), 13, 0), ((55, .if_icmp .ne 13, 3, 68, 0, 0, 0), 45, 0), ((58, .aload_n 0, 1, 0, 0, 0, 0), 5, 0), ((59, .getfield 15, 3, 9, 1, 20, 503), 50, 0), ((62, .iload_n 2, 1, 0, 0, 0, 0), 1, 2), ((63, .invokevirtual 57, 3, 0, 2, 4, 761), 56, 0)],
  [((66, .iconst 1, 1, 1, 0, 0, 0), 12, 0), ((67, .ireturn, 1, 0, 0, 0, 0), 1000, 0), ((68, .iconst 0, 1, 0, 0, 0, 0), 12, 0), ((69, .istore_n 3, 1, 0, 0, 0, 0), 7, 3), ((70, .iconst 0, 1, 0, 0, 0, 0), 12, 0), ((71, .istore 4, 2, 0, 0, 0, 0), 6, 4), ((73, .iload_n 3, 1, 0, 0, 0, 0), 1, 3), ((74, .iconst 3, 1, 3, 0, 0, 0), 12, 0), ((75, .if_icmp .ge 40, 3, 115, 0, 0, 0), 47, 0), ((78, .aload_n 0, 1, 0, 0, 0, 0), 5, 0), ((79, .iload_n 1, 1, 0, 0, 0, 0), 1, 1)],
  [((80, .iload_n 3, 1, 0, 0, 0, 0), 1, 3), ((81, .iadd, 1, 0, 0, 0, 0), 16, 0), ((82, .invokevirtual 49, 3, 186, 2, 9, 513), 56, 0), ((85, .invokestatic 46, 3, 187, 1, 0, 512), 57, 0), ((88, .ifCond .eq 27, 3, 115, 0, 0, 0), 38, 0), ((91, .iload 4, 2, 0, 0, 0, 0), 0, 4), ((93, .bipush 10, 2, 10, 0, 0, 0), 13, 0), ((95, .imul, 1, 0, 0, 0, 0), 18, 0)],
  [((96, .aload_n 0, 1, 0, 0, 0, 0), 5, 0), ((97, .iload_n 1, 1, 0, 0, 0, 0), 1, 1), ((98, .iload_n 3, 1, 0, 0, 0, 0), 1, 3), ((99, .iadd, 1, 0, 0, 0, 0), 16, 0), ((100, .invokevirtual 49, 3, 186, 2, 9, 513), 56, 0), ((103, .iadd, 1, 0, 0, 0, 0), 16, 0), ((104, .bipush 48, 2, 48, 0, 0, 0), 13, 0), ((106, .isub, 1, 0, 0, 0, 0), 17, 0), ((107, .istore 4, 2, 0, 0, 0, 0), 6, 4), ((109, .iinc 3 1, 3, 1, 0, 0, 0), 36, 3)],
  [((112, .goto (-39), 3, 73, 0, 0, 0), 37, 0), ((115, .aload_n 0, 1, 0, 0, 0, 0), 5, 0), ((116, .getfield 15, 3, 9, 1, 20, 503), 50, 0), ((119, .iload 4, 2, 0, 0, 0, 0), 0, 4), ((121, .invokevirtual 57, 3, 0, 2, 4, 761), 56, 0), ((124, .iload 4, 2, 0, 0, 0, 0), 0, 4), ((126, .sipush 255, 3, 255, 0, 0, 0), 14, 0)],
  [((129, .if_icmp .le 7, 3, 136, 0, 0, 0), 49, 0), ((132, .iconst 0, 1, 0, 0, 0, 0), 12, 0), ((133, .goto 4, 3, 137, 0, 0, 0), 37, 0), ((136, .iload_n 3, 1, 0, 0, 0, 0), 1, 3), ((137, .ireturn, 1, 0, 0, 0, 0), 1000, 0)]])
def al_mX10_scanSign : ev_MeK := (al_yX10_scanSign, prog_12_method_15_code, 5, none, [[((0, .aload_n 0, 1, 0, 0, 0, 0), 5, 0), ((1, .getfield 9, 3, 9, 0, 20, 502), 50, 0), ((4, .aload_n 0, 1, 0, 0, 0, 0), 5, 0), ((5, .getfield 39, 3, 9, 5, 0, 510), 50, 0), ((8, .baload, 1, 0, 0, 0, 0), 54, 0), ((9, .istore_n 1, 1, 0, 0, 0, 0), 7, 1), ((10, .aload_n 0, 1, 0, 0, 0, 0), 5, 0), ((11, .aload_n 0, 1, 0, 0, 0, 0), 5, 0), ((12, .getfield 39, 3, 9, 5, 0, 510), 50, 0), ((15, .iconst 1, 1, 1, 0, 0, 0), 12, 0)],
  [((16, .iadd, 1, 0, 0, 0, 0), 16, 0), ((17, .invokevirtual 49, 3, 186, 2, 9, 513), 56, 0), ((20, .istore_n 2, 1, 0, 0, 0, 0), 7, 2), ((21, .iload_n 1, 1, 0, 0, 0, 0), 1, 1), ((22, .iload_n 2, 1, 0, 0, 0, 0), 1, 2), ((23, .invokestatic 85, 3, 195, 2, 0, 770), 57, 0), ((26, .istore_n 3, 1, 0, 0, 0, 0), 7, 3), ((27, .iload_n 1, 1, 0, 0, 0, 0), 1, 1), ((28, .bipush 46, 2, 46, 0, 0, 0), 13, 0), ((30, .if_icmp .ne 43, 3, 73, 0, 0, 0), 45, 0)],
  [((33, .iload_n 2, 1, 0, 0, 0, 0), 1, 2), ((34, .bipush 46, 2, 46, 0, 0, 0), 13, 0), ((36, .if_icmp .ne 37, 3, 73, 0, 0, 0), 45, 0), ((39, .aload_n 0, 1, 0, 0, 0, 0), 5, 0), ((40, .aload_n 0, 1, 0, 0, 0, 0), 5, 0), ((41, .getfield 39, 3, 9, 5, 0, 510), 50, 0), ((44, .iconst 2, 1, 2, 0, 0, 0), 12, 0), ((45, .iadd, 1, 0, 0, 0, 0), 16, 0), ((46, .invokevirtual 49, 3, 186, 2, 9, 513), 56, 0)],
  [((49, .bipush 46, 2, 46, 0, 0, 0), 13, 0), ((51, .if_icmp .ne 22, 3, 73, 0, 0, 0), 45, 0), ((54, .aload_n 0, 1, 0, 0, 0, 0), 5, 0), ((55, .bipush 65, 2, 65, 0, 0, 0), 13, 0), ((57, .putfield 32, 3, 9, 4, 0, 508), 51, 0), ((60, .aload_n 0, 1, 0, 0, 0, 0), 5, 0), ((61, .aload_n 0, 1, 0, 0, 0, 0), 5, 0), ((62, .getfield 39, 3, 9, 5, 0, 510), 50, 0)],
  [((65, .iconst 3, 1, 3, 0, 0, 0), 12, 0), ((66, .iadd, 1, 0, 0, 0, 0), 16, 0), ((67, .putfield 23, 3, 9, 3, 0, 505), 51, 0), ((70, .goto 71, 3, 141, 0, 0, 0), 37, 0), ((73, .iload_n 3, 1, 0, 0, 0, 0), 1, 3), ((74, .iconst 1, 1, 1, 0, 0, 0), 12, 0), ((75, .if_icmp .eq 21, 3, 96, 0, 0, 0), 44, 0), ((78, .aload_n 0, 1, 0, 0, 0, 0), 5, 0), ((79, .iload_n 3, 1, 0, 0, 0, 0), 1, 3)],
  [((80, .putfield 32, 3, 9, 4, 0, 508), 51, 0), ((83, .aload_n 0, 1, 0, 0, 0, 0), 5, 0), ((84, .aload_n 0, 1, 0, 0, 0, 0), 5, 0), ((85, .getfield 39, 3, 9, 5, 0, 510), 50, 0), ((88, .iconst 2, 1, 2, 0, 0, 0), 12, 0), ((89, .iadd, 1, 0, 0, 0, 0), 16, 0), ((90, .putfield 23, 3, 9, 3, 0, 505), 51, 0), ((93, .goto 48, 3, 141, 0, 0, 0), 37, 0)],
  [((96, .iload_n 1, 1, 0, 0, 0, 0), 1, 1), ((97, .ifCond .ge 7, 3, 104, 0, 0, 0), 41, 0), ((100, .iconst (-1), 1, 4294967295, 0, 0, 0), 12, 0), ((101, .goto 10, 3, 111, 0, 0, 0), 37, 0), ((104, .ldc 89, 2, 92233720368547758093, 0, 0, 0), 59, 0), ((106, .iload_n 1, 1, 0, 0, 0, 0), 1, 1), ((107, .i2c, 1, 0, 0, 0, 0), 25, 0), ((108, .invokevirtual 91, 3, 93, 2, 1, 771), 59, 0), ((111, .istore 4, 2, 0, 0, 0, 0), 6, 4)],
  [((113, .aload_n 0, 1, 0, 0, 0, 0), 5, 0), ((114, .iload 4, 2, 0, 0, 0, 0), 0, 4), ((116, .ifCond .ge 7, 3, 123, 0, 0, 0), 41, 0), ((119, .iconst 1, 1, 1, 0, 0, 0), 12, 0), ((120, .goto 8, 3, 128, 0, 0, 0), 37, 0), ((123, .bipush 40, 2, 40, 0, 0, 0), 13, 0), ((125, .iload 4, 2, 0, 0, 0, 0), 0, 4), ((127, .iadd, 1, 0, 0, 0, 0), 16, 0)],
  [((128, .putfield 32, 3, 9, 4, 0, 508), 51, 0), ((131, .aload_n 0, 1, 0, 0, 0, 0), 5, 0), ((132, .aload_n 0, 1, 0, 0, 0, 0), 5, 0), ((133, .getfield 39, 3, 9, 5, 0, 510), 50, 0), ((136, .iconst 1, 1, 1, 0, 0, 0), 12, 0), ((137, .iadd, 1, 0, 0, 0, 0), 16, 0), ((138, .putfield 23, 3, 9, 3, 0, 505), 51, 0), ((141, .return_, 1, 0, 0, 0, 0), 1000, 0)]])
def al_mX10_pairOf : ev_MeK := (al_yX10_pairOf, prog_12_method_16_code, 2, (some .int), [[((0, .iload_n 1, 1, 0, 0, 0, 0), 1, 1), ((1, .bipush 61, 2, 61, 0, 0, 0), 13, 0), ((3, .if_icmp .ne 59, 3, 62, 0, 0, 0), 45, 0), ((6, .iload_n 0, 1, 0, 0, 0, 0), 1, 0), ((7, .lookupswitch 53 #[(60, 47), (61, 41), (62, 50), (126, 44)], 41, 0, 0, 0, 0), 59, 0)],
  [],
  [],
  [((48, .bipush 66, 2, 66, 0, 0, 0), 13, 0), ((50, .ireturn, 1, 0, 0, 0, 0), 1000, 0), ((51, .bipush 67, 2, 67, 0, 0, 0), 13, 0), ((53, .ireturn, 1, 0, 0, 0, 0), 1000, 0), ((54, .bipush 68, 2, 68, 0, 0, 0), 13, 0), ((56, .ireturn, 1, 0, 0, 0, 0), 1000, 0), ((57, .bipush 69, 2, 69, 0, 0, 0), 13, 0), ((59, .ireturn, 1, 0, 0, 0, 0), 1000, 0), ((60, .iconst 1, 1, 1, 0, 0, 0), 12, 0), ((61, .ireturn, 1, 0, 0, 0, 0), 1000, 0), ((62, .iload_n 0, 1, 0, 0, 0, 0), 1, 0), ((63, .iload_n 1, 1, 0, 0, 0, 0), 1, 1)],
  [((64, .if_icmp .eq 5, 3, 69, 0, 0, 0), 44, 0), ((67, .iconst 1, 1, 1, 0, 0, 0), 12, 0), ((68, .ireturn, 1, 0, 0, 0, 0), 1000, 0), ((69, .iload_n 0, 1, 0, 0, 0, 0), 1, 0), ((70, .lookupswitch 54 #[(46, 51), (47, 42), (60, 45), (62, 48)], 42, 0, 0, 0, 0), 59, 0)],
  [],
  [],
  [((112, .bipush 61, 2, 61, 0, 0, 0), 13, 0), ((114, .ireturn, 1, 0, 0, 0, 0), 1000, 0), ((115, .bipush 62, 2, 62, 0, 0, 0), 13, 0), ((117, .ireturn, 1, 0, 0, 0, 0), 1000, 0), ((118, .bipush 63, 2, 63, 0, 0, 0), 13, 0), ((120, .ireturn, 1, 0, 0, 0, 0), 1000, 0), ((121, .bipush 64, 2, 64, 0, 0, 0), 13, 0), ((123, .ireturn, 1, 0, 0, 0, 0), 1000, 0), ((124, .iconst 1, 1, 1, 0, 0, 0), 12, 0), ((125, .ireturn, 1, 0, 0, 0, 0), 1000, 0)]])
def al_mX12_lineOf : ev_MeK := (al_yX12_lineOf, prog_14_method_14_code, 4, (some .int), [[((0, .iconst 1, 1, 1, 0, 0, 0), 12, 0), ((1, .istore_n 2, 1, 0, 0, 0, 0), 7, 2), ((2, .iconst 0, 1, 0, 0, 0, 0), 12, 0), ((3, .istore_n 3, 1, 0, 0, 0, 0), 7, 3), ((4, .iload_n 3, 1, 0, 0, 0, 0), 1, 3), ((5, .iload_n 1, 1, 0, 0, 0, 0), 1, 1), ((6, .if_icmp .ge 36, 3, 42, 0, 0, 0), 47, 0), ((9, .iload_n 3, 1, 0, 0, 0, 0), 1, 3), ((10, .aload_n 0, 1, 0, 0, 0, 0), 5, 0), ((11, .getfield 506, 3, 0, 2, 0, 259), 50, 0), ((14, .if_icmp .ge 28, 3, 42, 0, 0, 0), 47, 0)],
  [((17, .aload_n 0, 1, 0, 0, 0, 0), 5, 0), ((18, .getfield 7, 3, 0, 1, 20, 41), 50, 0), ((21, .iload_n 3, 1, 0, 0, 0, 0), 1, 3), ((22, .iaload, 1, 0, 0, 0, 0), 52, 0), ((23, .bipush 10, 2, 10, 0, 0, 0), 13, 0), ((25, .if_icmp .ne 9, 3, 34, 0, 0, 0), 45, 0), ((28, .iload_n 2, 1, 0, 0, 0, 0), 1, 2), ((29, .iconst 1, 1, 1, 0, 0, 0), 12, 0), ((30, .iadd, 1, 0, 0, 0, 0), 16, 0), ((31, .goto 4, 3, 35, 0, 0, 0), 37, 0)],
  [((34, .iload_n 2, 1, 0, 0, 0, 0), 1, 2), ((35, .istore_n 2, 1, 0, 0, 0, 0), 7, 2), ((36, .iinc 3 1, 3, 1, 0, 0, 0), 36, 3), ((39, .goto (-35), 3, 4, 0, 0, 0), 37, 0), ((42, .iload_n 2, 1, 0, 0, 0, 0), 1, 2), ((43, .ireturn, 1, 0, 0, 0, 0), 1000, 0)]])
def al_mX12_isLetter : ev_MeK := (al_yX12_isLetter, prog_14_method_15_code, 1, (some .boolean), [[((0, .iload_n 0, 1, 0, 0, 0, 0), 1, 0), ((1, .bipush 97, 2, 97, 0, 0, 0), 13, 0), ((3, .if_icmp .lt 9, 3, 12, 0, 0, 0), 46, 0), ((6, .iload_n 0, 1, 0, 0, 0, 0), 1, 0), ((7, .bipush 122, 2, 122, 0, 0, 0), 13, 0), ((9, .if_icmp .le 21, 3, 30, 0, 0, 0), 49, 0), ((12, .iload_n 0, 1, 0, 0, 0, 0), 1, 0), ((13, .bipush 65, 2, 65, 0, 0, 0), 13, 0), ((15, .if_icmp .lt 9, 3, 24, 0, 0, 0), 46, 0)],
  [((18, .iload_n 0, 1, 0, 0, 0, 0), 1, 0), ((19, .bipush 90, 2, 90, 0, 0, 0), 13, 0), ((21, .if_icmp .le 9, 3, 30, 0, 0, 0), 49, 0), ((24, .iload_n 0, 1, 0, 0, 0, 0), 1, 0), ((25, .bipush 95, 2, 95, 0, 0, 0), 13, 0), ((27, .if_icmp .ne 7, 3, 34, 0, 0, 0), 45, 0), ((30, .iconst 1, 1, 1, 0, 0, 0), 12, 0), ((31, .goto 4, 3, 35, 0, 0, 0), 37, 0)],
  [((34, .iconst 0, 1, 0, 0, 0, 0), 12, 0), ((35, .ireturn, 1, 0, 0, 0, 0), 1000, 0)]])
def al_mX12_isDigit : ev_MeK := (al_yX12_isDigit, prog_14_method_16_code, 1, (some .boolean), [[((0, .iload_n 0, 1, 0, 0, 0, 0), 1, 0), ((1, .bipush 48, 2, 48, 0, 0, 0), 13, 0), ((3, .if_icmp .lt 13, 3, 16, 0, 0, 0), 46, 0), ((6, .iload_n 0, 1, 0, 0, 0, 0), 1, 0), ((7, .bipush 57, 2, 57, 0, 0, 0), 13, 0), ((9, .if_icmp .gt 7, 3, 16, 0, 0, 0), 48, 0), ((12, .iconst 1, 1, 1, 0, 0, 0), 12, 0), ((13, .goto 4, 3, 17, 0, 0, 0), 37, 0)],
  [((16, .iconst 0, 1, 0, 0, 0, 0), 12, 0), ((17, .ireturn, 1, 0, 0, 0, 0), 1000, 0)]])
def al_mX12_hex : ev_MeK := (al_yX12_hex, prog_14_method_17_code, 1, (some .int), [[((0, .iload_n 0, 1, 0, 0, 0, 0), 1, 0), ((1, .invokestatic 513, 3, 198, 1, 0, 253), 57, 0), ((4, .ifCond .eq 10, 3, 14, 0, 0, 0), 38, 0), ((7, .iload_n 0, 1, 0, 0, 0, 0), 1, 0), ((8, .bipush 48, 2, 48, 0, 0, 0), 13, 0), ((10, .isub, 1, 0, 0, 0, 0), 17, 0), ((11, .goto 48, 3, 59, 0, 0, 0), 37, 0), ((14, .iload_n 0, 1, 0, 0, 0, 0), 1, 0), ((15, .bipush 97, 2, 97, 0, 0, 0), 13, 0)],
  [((17, .if_icmp .lt 19, 3, 36, 0, 0, 0), 46, 0), ((20, .iload_n 0, 1, 0, 0, 0, 0), 1, 0), ((21, .bipush 102, 2, 102, 0, 0, 0), 13, 0), ((23, .if_icmp .gt 13, 3, 36, 0, 0, 0), 48, 0), ((26, .iload_n 0, 1, 0, 0, 0, 0), 1, 0), ((27, .bipush 97, 2, 97, 0, 0, 0), 13, 0), ((29, .isub, 1, 0, 0, 0, 0), 17, 0), ((30, .bipush 10, 2, 10, 0, 0, 0), 13, 0)],
  [((32, .iadd, 1, 0, 0, 0, 0), 16, 0), ((33, .goto 26, 3, 59, 0, 0, 0), 37, 0), ((36, .iload_n 0, 1, 0, 0, 0, 0), 1, 0), ((37, .bipush 65, 2, 65, 0, 0, 0), 13, 0), ((39, .if_icmp .lt 19, 3, 58, 0, 0, 0), 46, 0), ((42, .iload_n 0, 1, 0, 0, 0, 0), 1, 0), ((43, .bipush 70, 2, 70, 0, 0, 0), 13, 0), ((45, .if_icmp .gt 13, 3, 58, 0, 0, 0), 48, 0)],
  [((48, .iload_n 0, 1, 0, 0, 0, 0), 1, 0), ((49, .bipush 65, 2, 65, 0, 0, 0), 13, 0), ((51, .isub, 1, 0, 0, 0, 0), 17, 0), ((52, .bipush 10, 2, 10, 0, 0, 0), 13, 0), ((54, .iadd, 1, 0, 0, 0, 0), 16, 0), ((55, .goto 4, 3, 59, 0, 0, 0), 37, 0), ((58, .iconst (-1), 1, 4294967295, 0, 0, 0), 12, 0), ((59, .ireturn, 1, 0, 0, 0, 0), 1000, 0)]])
def al_mX12_wordAt : ev_MeK := (al_yX12_wordAt, prog_14_method_19_code, 6, (some .int), [[((0, .lconst 0, 1, 0, 0, 0, 0), 15, 0), ((1, .lstore_n 3, 1, 0, 0, 0, 0), 9, 3), ((2, .iconst 0, 1, 0, 0, 0, 0), 12, 0), ((3, .istore 5, 2, 0, 0, 0, 0), 6, 5), ((5, .iload 5, 2, 0, 0, 0, 0), 0, 5), ((7, .iload_n 2, 1, 0, 0, 0, 0), 1, 2), ((8, .if_icmp .ge 31, 3, 39, 0, 0, 0), 47, 0), ((11, .iload_n 2, 1, 0, 0, 0, 0), 1, 2), ((12, .bipush 8, 2, 8, 0, 0, 0), 13, 0), ((14, .if_icmp .gt 25, 3, 39, 0, 0, 0), 48, 0)],
  [((17, .lload_n 3, 1, 0, 0, 0, 0), 3, 3), ((18, .bipush 8, 2, 8, 0, 0, 0), 13, 0), ((20, .lshl, 1, 0, 0, 0, 0), 58, 0), ((21, .aload_n 0, 1, 0, 0, 0, 0), 5, 0), ((22, .getfield 7, 3, 0, 1, 20, 41), 50, 0), ((25, .iload_n 1, 1, 0, 0, 0, 0), 1, 1), ((26, .iload 5, 2, 0, 0, 0, 0), 0, 5), ((28, .iadd, 1, 0, 0, 0, 0), 16, 0), ((29, .iaload, 1, 0, 0, 0, 0), 52, 0), ((30, .i2l, 1, 0, 0, 0, 0), 26, 0), ((31, .lor, 1, 0, 0, 0, 0), 58, 0)],
  [((32, .lstore_n 3, 1, 0, 0, 0, 0), 9, 3), ((33, .iinc 5 1, 3, 1, 0, 0, 0), 36, 5), ((36, .goto (-31), 3, 5, 0, 0, 0), 37, 0), ((39, .lload_n 3, 1, 0, 0, 0, 0), 3, 3), ((40, .ldc2_w 520, 3, 6385252, 0, 0, 772), 58, 0), ((43, .lcmp, 1, 0, 0, 0, 0), 32, 0), ((44, .ifCond .ne 5, 3, 49, 0, 0, 0), 39, 0), ((47, .iconst 1, 1, 1, 0, 0, 0), 12, 0)],
  [((48, .ireturn, 1, 0, 0, 0, 0), 1000, 0), ((49, .lload_n 3, 1, 0, 0, 0, 0), 3, 3), ((50, .ldc2_w 522, 3, 422826041707, 0, 0, 773), 58, 0), ((53, .lcmp, 1, 0, 0, 0, 0), 32, 0), ((54, .ifCond .ne 5, 3, 59, 0, 0, 0), 39, 0), ((57, .iconst 2, 1, 2, 0, 0, 0), 12, 0), ((58, .ireturn, 1, 0, 0, 0, 0), 1000, 0), ((59, .lload_n 3, 1, 0, 0, 0, 0), 3, 3), ((60, .ldc2_w 524, 3, 25711, 0, 0, 774), 58, 0), ((63, .lcmp, 1, 0, 0, 0, 0), 32, 0)],
  [((64, .ifCond .ne 5, 3, 69, 0, 0, 0), 39, 0), ((67, .iconst 3, 1, 3, 0, 0, 0), 12, 0), ((68, .ireturn, 1, 0, 0, 0, 0), 1000, 0), ((69, .lload_n 3, 1, 0, 0, 0, 0), 3, 3), ((70, .ldc2_w 526, 3, 1701606245, 0, 0, 775), 58, 0), ((73, .lcmp, 1, 0, 0, 0, 0), 32, 0), ((74, .ifCond .ne 5, 3, 79, 0, 0, 0), 39, 0), ((77, .iconst 4, 1, 4, 0, 0, 0), 12, 0), ((78, .ireturn, 1, 0, 0, 0, 0), 1000, 0), ((79, .lload_n 3, 1, 0, 0, 0, 0), 3, 3)],
  [((80, .ldc2_w 528, 3, 111516466899302, 0, 0, 776), 58, 0), ((83, .lcmp, 1, 0, 0, 0, 0), 32, 0), ((84, .ifCond .ne 5, 3, 89, 0, 0, 0), 39, 0), ((87, .iconst 5, 1, 5, 0, 0, 0), 12, 0), ((88, .ireturn, 1, 0, 0, 0, 0), 1000, 0), ((89, .lload_n 3, 1, 0, 0, 0, 0), 3, 3), ((90, .ldc2_w 530, 3, 6647396, 0, 0, 777), 58, 0), ((93, .lcmp, 1, 0, 0, 0, 0), 32, 0), ((94, .ifCond .ne 6, 3, 100, 0, 0, 0), 39, 0)],
  [((97, .bipush 6, 2, 6, 0, 0, 0), 13, 0), ((99, .ireturn, 1, 0, 0, 0, 0), 1000, 0), ((100, .lload_n 3, 1, 0, 0, 0, 0), 3, 3), ((101, .ldc2_w 532, 3, 439721161573, 0, 0, 778), 58, 0), ((104, .lcmp, 1, 0, 0, 0, 0), 32, 0), ((105, .ifCond .ne 6, 3, 111, 0, 0, 0), 39, 0), ((108, .bipush 7, 2, 7, 0, 0, 0), 13, 0), ((110, .ireturn, 1, 0, 0, 0, 0), 1000, 0), ((111, .lload_n 3, 1, 0, 0, 0, 0), 3, 3)],
  [((112, .ldc2_w 534, 3, 6713202, 0, 0, 779), 58, 0), ((115, .lcmp, 1, 0, 0, 0, 0), 32, 0), ((116, .ifCond .ne 6, 3, 122, 0, 0, 0), 39, 0), ((119, .bipush 8, 2, 8, 0, 0, 0), 13, 0), ((121, .ireturn, 1, 0, 0, 0, 0), 1000, 0), ((122, .lload_n 3, 1, 0, 0, 0, 0), 3, 3), ((123, .ldc2_w 418, 3, 7382928537577680750, 0, 0, 186), 58, 0), ((126, .lcmp, 1, 0, 0, 0, 0), 32, 0), ((127, .ifCond .ne 6, 3, 133, 0, 0, 0), 39, 0)],
  [((130, .bipush 9, 2, 9, 0, 0, 0), 13, 0), ((132, .ireturn, 1, 0, 0, 0, 0), 1000, 0), ((133, .lload_n 3, 1, 0, 0, 0, 0), 3, 3), ((134, .ldc2_w 536, 3, 26982, 0, 0, 780), 58, 0), ((137, .lcmp, 1, 0, 0, 0, 0), 32, 0), ((138, .ifCond .ne 6, 3, 144, 0, 0, 0), 39, 0), ((141, .bipush 10, 2, 10, 0, 0, 0), 13, 0), ((143, .ireturn, 1, 0, 0, 0, 0), 1000, 0)],
  [((144, .lload_n 3, 1, 0, 0, 0, 0), 3, 3), ((145, .ldc2_w 538, 3, 26990, 0, 0, 781), 58, 0), ((148, .lcmp, 1, 0, 0, 0, 0), 32, 0), ((149, .ifCond .ne 6, 3, 155, 0, 0, 0), 39, 0), ((152, .bipush 11, 2, 11, 0, 0, 0), 13, 0), ((154, .ireturn, 1, 0, 0, 0, 0), 1000, 0), ((155, .lload_n 3, 1, 0, 0, 0, 0), 3, 3), ((156, .invokestatic 540, 3, 201, 1, 0, 782), 57, 0), ((159, .ireturn, 1, 0, 0, 0, 0), 1000, 0)]])
def al_mX12_wordBehind : ev_MeK := (al_yX12_wordBehind, prog_14_method_20_code, 2, (some .int), [[((0, .lload_n 0, 1, 0, 0, 0, 0), 3, 0), ((1, .ldc2_w 544, 3, 465725251948, 0, 0, 783), 58, 0), ((4, .lcmp, 1, 0, 0, 0, 0), 32, 0), ((5, .ifCond .ne 6, 3, 11, 0, 0, 0), 39, 0), ((8, .bipush 12, 2, 12, 0, 0, 0), 13, 0), ((10, .ireturn, 1, 0, 0, 0, 0), 1000, 0), ((11, .lload_n 0, 1, 0, 0, 0, 0), 3, 0), ((12, .ldc2_w 408, 3, 7235948, 0, 0, 181), 58, 0), ((15, .lcmp, 1, 0, 0, 0, 0), 32, 0)],
  [((16, .ifCond .ne 6, 3, 22, 0, 0, 0), 39, 0), ((19, .bipush 13, 2, 13, 0, 0, 0), 13, 0), ((21, .ireturn, 1, 0, 0, 0, 0), 1000, 0), ((22, .lload_n 0, 1, 0, 0, 0, 0), 3, 0), ((23, .ldc2_w 546, 3, 7237492, 0, 0, 784), 58, 0), ((26, .lcmp, 1, 0, 0, 0, 0), 32, 0), ((27, .ifCond .ne 6, 3, 33, 0, 0, 0), 39, 0), ((30, .bipush 14, 2, 14, 0, 0, 0), 13, 0)],
  [((32, .ireturn, 1, 0, 0, 0, 0), 1000, 0), ((33, .lload_n 0, 1, 0, 0, 0, 0), 3, 0), ((34, .ldc2_w 548, 3, 28530, 0, 0, 785), 58, 0), ((37, .lcmp, 1, 0, 0, 0, 0), 32, 0), ((38, .ifCond .ne 6, 3, 44, 0, 0, 0), 39, 0), ((41, .bipush 15, 2, 15, 0, 0, 0), 13, 0), ((43, .ireturn, 1, 0, 0, 0, 0), 1000, 0), ((44, .lload_n 0, 1, 0, 0, 0, 0), 3, 0), ((45, .ldc2_w 550, 3, 125780002955636, 0, 0, 786), 58, 0)],
  [((48, .lcmp, 1, 0, 0, 0, 0), 32, 0), ((49, .ifCond .ne 6, 3, 55, 0, 0, 0), 39, 0), ((52, .bipush 16, 2, 16, 0, 0, 0), 13, 0), ((54, .ireturn, 1, 0, 0, 0, 0), 1000, 0), ((55, .lload_n 0, 1, 0, 0, 0, 0), 3, 0), ((56, .ldc2_w 552, 3, 125780071117422, 0, 0, 787), 58, 0), ((59, .lcmp, 1, 0, 0, 0, 0), 32, 0), ((60, .ifCond .ne 6, 3, 66, 0, 0, 0), 39, 0), ((63, .bipush 17, 2, 17, 0, 0, 0), 13, 0)],
  [((65, .ireturn, 1, 0, 0, 0, 0), 1000, 0), ((66, .lload_n 0, 1, 0, 0, 0, 0), 3, 0), ((67, .ldc2_w 554, 3, 1952998766, 0, 0, 788), 58, 0), ((70, .lcmp, 1, 0, 0, 0, 0), 32, 0), ((71, .ifCond .ne 6, 3, 77, 0, 0, 0), 39, 0), ((74, .bipush 18, 2, 18, 0, 0, 0), 13, 0), ((76, .ireturn, 1, 0, 0, 0, 0), 1000, 0), ((77, .lload_n 0, 1, 0, 0, 0, 0), 3, 0), ((78, .ldc2_w 556, 3, 1953658213, 0, 0, 789), 58, 0)],
  [((81, .lcmp, 1, 0, 0, 0, 0), 32, 0), ((82, .ifCond .ne 6, 3, 88, 0, 0, 0), 39, 0), ((85, .bipush 19, 2, 19, 0, 0, 0), 13, 0), ((87, .ireturn, 1, 0, 0, 0, 0), 1000, 0), ((88, .lload_n 0, 1, 0, 0, 0, 0), 3, 0), ((89, .ldc2_w 558, 3, 504364296556, 0, 0, 790), 58, 0), ((92, .lcmp, 1, 0, 0, 0, 0), 32, 0), ((93, .ifCond .ne 6, 3, 99, 0, 0, 0), 39, 0)],
  [((96, .bipush 20, 2, 20, 0, 0, 0), 13, 0), ((98, .ireturn, 1, 0, 0, 0, 0), 1000, 0), ((99, .lload_n 0, 1, 0, 0, 0, 0), 3, 0), ((100, .ldc2_w 560, 3, 512852847717, 0, 0, 791), 58, 0), ((103, .lcmp, 1, 0, 0, 0, 0), 32, 0), ((104, .ifCond .ne 8, 3, 112, 0, 0, 0), 39, 0), ((107, .bipush 21, 2, 21, 0, 0, 0), 13, 0), ((109, .goto 4, 3, 113, 0, 0, 0), 37, 0)],
  [((112, .iconst 0, 1, 0, 0, 0, 0), 12, 0), ((113, .ireturn, 1, 0, 0, 0, 0), 1000, 0)]])
def al_mX12_readName : ev_MeK := (al_yX12_readName, prog_14_method_21_code, 5, none, [[((0, .iload_n 1, 1, 0, 0, 0, 0), 1, 1), ((1, .istore_n 2, 1, 0, 0, 0, 0), 7, 2), ((2, .aload_n 0, 1, 0, 0, 0, 0), 5, 0), ((3, .iload_n 2, 1, 0, 0, 0, 0), 1, 2), ((4, .invokevirtual 517, 3, 28, 2, 0, 249), 56, 0), ((7, .invokestatic 562, 3, 197, 1, 0, 251), 57, 0), ((10, .ifCond .ne 14, 3, 24, 0, 0, 0), 39, 0), ((13, .aload_n 0, 1, 0, 0, 0, 0), 5, 0), ((14, .iload_n 2, 1, 0, 0, 0, 0), 1, 2), ((15, .invokevirtual 517, 3, 28, 2, 0, 249), 56, 0)],
  [((18, .invokestatic 513, 3, 198, 1, 0, 253), 57, 0), ((21, .ifCond .eq 9, 3, 30, 0, 0, 0), 38, 0), ((24, .iinc 2 1, 3, 1, 0, 0, 0), 36, 2), ((27, .goto (-25), 3, 2, 0, 0, 0), 37, 0), ((30, .aload_n 0, 1, 0, 0, 0, 0), 5, 0), ((31, .iload_n 2, 1, 0, 0, 0, 0), 1, 2)],
  [((32, .putfield 565, 3, 0, 69, 0, 258), 51, 0), ((35, .aload_n 0, 1, 0, 0, 0, 0), 5, 0), ((36, .iload_n 1, 1, 0, 0, 0, 0), 1, 1), ((37, .iload_n 2, 1, 0, 0, 0, 0), 1, 2), ((38, .iload_n 1, 1, 0, 0, 0, 0), 1, 1), ((39, .isub, 1, 0, 0, 0, 0), 17, 0), ((40, .invokevirtual 568, 3, 200, 3, 0, 792), 56, 0), ((43, .istore_n 3, 1, 0, 0, 0, 0), 7, 3), ((44, .iload_n 3, 1, 0, 0, 0, 0), 1, 3), ((45, .ifCond .le 15, 3, 60, 0, 0, 0), 43, 0)],
  [((48, .aload_n 0, 1, 0, 0, 0, 0), 5, 0), ((49, .iconst 4, 1, 4, 0, 0, 0), 12, 0), ((50, .putfield 572, 3, 0, 67, 0, 250), 51, 0), ((53, .aload_n 0, 1, 0, 0, 0, 0), 5, 0), ((54, .iload_n 3, 1, 0, 0, 0, 0), 1, 3), ((55, .i2l, 1, 0, 0, 0, 0), 26, 0), ((56, .putfield 575, 3, 0, 68, 10, 257), 51, 0), ((59, .return_, 1, 0, 0, 0, 0), 1000, 0), ((60, .aload_n 0, 1, 0, 0, 0, 0), 5, 0), ((61, .iload_n 2, 1, 0, 0, 0, 0), 1, 2), ((62, .iload_n 1, 1, 0, 0, 0, 0), 1, 1), ((63, .isub, 1, 0, 0, 0, 0), 17, 0)],
  [((64, .bipush 30, 2, 30, 0, 0, 0), 13, 0), ((66, .if_icmp .le 8, 3, 74, 0, 0, 0), 49, 0), ((69, .bipush 7, 2, 7, 0, 0, 0), 13, 0), ((71, .goto 4, 3, 75, 0, 0, 0), 37, 0), ((74, .iconst 1, 1, 1, 0, 0, 0), 12, 0), ((75, .putfield 572, 3, 0, 67, 0, 250), 51, 0), ((78, .aload_n 0, 1, 0, 0, 0, 0), 5, 0), ((79, .getfield 572, 3, 0, 67, 0, 250), 50, 0)],
  [((82, .iconst 1, 1, 1, 0, 0, 0), 12, 0), ((83, .if_icmp .ne 60, 3, 143, 0, 0, 0), 45, 0), ((86, .aload_n 0, 1, 0, 0, 0, 0), 5, 0), ((87, .iconst 0, 1, 0, 0, 0, 0), 12, 0), ((88, .putfield 338, 3, 0, 20, 0, 230), 51, 0), ((91, .iload_n 1, 1, 0, 0, 0, 0), 1, 1), ((92, .istore 4, 2, 0, 0, 0, 0), 6, 4), ((94, .iload 4, 2, 0, 0, 0, 0), 0, 4)],
  [((96, .iload_n 2, 1, 0, 0, 0, 0), 1, 2), ((97, .if_icmp .ge 36, 3, 133, 0, 0, 0), 47, 0), ((100, .aload_n 0, 1, 0, 0, 0, 0), 5, 0), ((101, .getfield 33, 3, 0, 19, 20, 50), 50, 0), ((104, .aload_n 0, 1, 0, 0, 0, 0), 5, 0), ((105, .getfield 338, 3, 0, 20, 0, 230), 50, 0), ((108, .aload_n 0, 1, 0, 0, 0, 0), 5, 0), ((109, .getfield 7, 3, 0, 1, 20, 41), 50, 0)],
  [((112, .iload 4, 2, 0, 0, 0, 0), 0, 4), ((114, .iaload, 1, 0, 0, 0, 0), 52, 0), ((115, .i2b, 1, 0, 0, 0, 0), 24, 0), ((116, .bastore, 1, 0, 0, 0, 0), 55, 0), ((117, .aload_n 0, 1, 0, 0, 0, 0), 5, 0), ((118, .dup, 1, 0, 0, 0, 0), 35, 0), ((119, .getfield 338, 3, 0, 20, 0, 230), 50, 0), ((122, .iconst 1, 1, 1, 0, 0, 0), 12, 0), ((123, .iadd, 1, 0, 0, 0, 0), 16, 0), ((124, .putfield 338, 3, 0, 20, 0, 230), 51, 0), ((127, .iinc 4 1, 3, 1, 0, 0, 0), 36, 4)],
  [((130, .goto (-36), 3, 94, 0, 0, 0), 37, 0), ((133, .aload_n 0, 1, 0, 0, 0, 0), 5, 0), ((134, .aload_n 0, 1, 0, 0, 0, 0), 5, 0), ((135, .iconst 1, 1, 1, 0, 0, 0), 12, 0), ((136, .invokevirtual 349, 3, 22, 2, 0, 232), 56, 0), ((139, .i2l, 1, 0, 0, 0, 0), 26, 0), ((140, .putfield 575, 3, 0, 68, 10, 257), 51, 0), ((143, .return_, 1, 0, 0, 0, 0), 1000, 0)]])
def al_mX12_readWhole : ev_MeK := (al_yX12_readWhole, prog_14_method_22_code, 7, none, [[((0, .iload_n 1, 1, 0, 0, 0, 0), 1, 1), ((1, .istore_n 2, 1, 0, 0, 0, 0), 7, 2), ((2, .lconst 0, 1, 0, 0, 0, 0), 15, 0), ((3, .lstore_n 3, 1, 0, 0, 0, 0), 9, 3), ((4, .iconst 1, 1, 1, 0, 0, 0), 12, 0), ((5, .istore 5, 2, 0, 0, 0, 0), 6, 5), ((7, .aload_n 0, 1, 0, 0, 0, 0), 5, 0), ((8, .iload_n 2, 1, 0, 0, 0, 0), 1, 2), ((9, .invokevirtual 517, 3, 28, 2, 0, 249), 56, 0), ((12, .bipush 48, 2, 48, 0, 0, 0), 13, 0), ((14, .if_icmp .ne 78, 3, 92, 0, 0, 0), 45, 0)],
  [((17, .aload_n 0, 1, 0, 0, 0, 0), 5, 0), ((18, .iload_n 2, 1, 0, 0, 0, 0), 1, 2), ((19, .iconst 1, 1, 1, 0, 0, 0), 12, 0), ((20, .iadd, 1, 0, 0, 0, 0), 16, 0), ((21, .invokevirtual 517, 3, 28, 2, 0, 249), 56, 0), ((24, .bipush 120, 2, 120, 0, 0, 0), 13, 0), ((26, .if_icmp .ne 66, 3, 92, 0, 0, 0), 45, 0), ((29, .iload_n 2, 1, 0, 0, 0, 0), 1, 2), ((30, .iconst 2, 1, 2, 0, 0, 0), 12, 0), ((31, .iadd, 1, 0, 0, 0, 0), 16, 0)],
  [((32, .istore_n 2, 1, 0, 0, 0, 0), 7, 2), ((33, .iload_n 2, 1, 0, 0, 0, 0), 1, 2), ((34, .istore 6, 2, 0, 0, 0, 0), 6, 6), ((36, .aload_n 0, 1, 0, 0, 0, 0), 5, 0), ((37, .iload_n 2, 1, 0, 0, 0, 0), 1, 2), ((38, .invokevirtual 517, 3, 28, 2, 0, 249), 56, 0), ((41, .invokestatic 579, 3, 199, 1, 0, 793), 57, 0), ((44, .ifCond .lt 23, 3, 67, 0, 0, 0), 40, 0), ((47, .lload_n 3, 1, 0, 0, 0, 0), 3, 3)],
  [((48, .iconst 4, 1, 4, 0, 0, 0), 12, 0), ((49, .lshl, 1, 0, 0, 0, 0), 58, 0), ((50, .aload_n 0, 1, 0, 0, 0, 0), 5, 0), ((51, .iload_n 2, 1, 0, 0, 0, 0), 1, 2), ((52, .invokevirtual 517, 3, 28, 2, 0, 249), 56, 0), ((55, .invokestatic 579, 3, 199, 1, 0, 793), 57, 0), ((58, .i2l, 1, 0, 0, 0, 0), 26, 0), ((59, .lor, 1, 0, 0, 0, 0), 58, 0), ((60, .lstore_n 3, 1, 0, 0, 0, 0), 9, 3), ((61, .iinc 2 1, 3, 1, 0, 0, 0), 36, 2)],
  [((64, .goto (-28), 3, 36, 0, 0, 0), 37, 0), ((67, .iload_n 2, 1, 0, 0, 0, 0), 1, 2), ((68, .iload 6, 2, 0, 0, 0, 0), 0, 6), ((70, .if_icmp .le 16, 3, 86, 0, 0, 0), 49, 0), ((73, .iload_n 2, 1, 0, 0, 0, 0), 1, 2), ((74, .iload 6, 2, 0, 0, 0, 0), 0, 6), ((76, .isub, 1, 0, 0, 0, 0), 17, 0), ((77, .bipush 16, 2, 16, 0, 0, 0), 13, 0), ((79, .if_icmp .gt 7, 3, 86, 0, 0, 0), 48, 0)],
  [((82, .iconst 1, 1, 1, 0, 0, 0), 12, 0), ((83, .goto 4, 3, 87, 0, 0, 0), 37, 0), ((86, .iconst 0, 1, 0, 0, 0, 0), 12, 0), ((87, .istore 5, 2, 0, 0, 0, 0), 6, 5), ((89, .goto 95, 3, 184, 0, 0, 0), 37, 0), ((92, .aload_n 0, 1, 0, 0, 0, 0), 5, 0), ((93, .iload_n 2, 1, 0, 0, 0, 0), 1, 2), ((94, .invokevirtual 517, 3, 28, 2, 0, 249), 56, 0)],
  [((97, .invokestatic 513, 3, 198, 1, 0, 253), 57, 0), ((100, .ifCond .eq 64, 3, 164, 0, 0, 0), 38, 0), ((103, .iload 5, 2, 0, 0, 0, 0), 0, 5), ((105, .ifCond .eq 33, 3, 138, 0, 0, 0), 38, 0), ((108, .lload_n 3, 1, 0, 0, 0, 0), 3, 3), ((109, .ldc2_w 582, 3, 922337203685477580, 0, 0, 794), 58, 0)],
  [((112, .lcmp, 1, 0, 0, 0, 0), 32, 0), ((113, .ifCond .lt 21, 3, 134, 0, 0, 0), 40, 0), ((116, .lload_n 3, 1, 0, 0, 0, 0), 3, 3), ((117, .ldc2_w 582, 3, 922337203685477580, 0, 0, 794), 58, 0), ((120, .lcmp, 1, 0, 0, 0, 0), 32, 0), ((121, .ifCond .ne 17, 3, 138, 0, 0, 0), 39, 0), ((124, .aload_n 0, 1, 0, 0, 0, 0), 5, 0), ((125, .iload_n 2, 1, 0, 0, 0, 0), 1, 2), ((126, .invokevirtual 517, 3, 28, 2, 0, 249), 56, 0)],
  [((129, .bipush 55, 2, 55, 0, 0, 0), 13, 0), ((131, .if_icmp .gt 7, 3, 138, 0, 0, 0), 48, 0), ((134, .iconst 1, 1, 1, 0, 0, 0), 12, 0), ((135, .goto 4, 3, 139, 0, 0, 0), 37, 0), ((138, .iconst 0, 1, 0, 0, 0, 0), 12, 0), ((139, .istore 5, 2, 0, 0, 0, 0), 6, 5), ((141, .ldc2_w 584, 3, 10, 0, 0, 795), 58, 0)],
  [((144, .lload_n 3, 1, 0, 0, 0, 0), 3, 3), ((145, .lmul, 1, 0, 0, 0, 0), 29, 0), ((146, .aload_n 0, 1, 0, 0, 0, 0), 5, 0), ((147, .iload_n 2, 1, 0, 0, 0, 0), 1, 2), ((148, .invokevirtual 517, 3, 28, 2, 0, 249), 56, 0), ((151, .i2l, 1, 0, 0, 0, 0), 26, 0), ((152, .ladd, 1, 0, 0, 0, 0), 27, 0), ((153, .ldc2_w 586, 3, 48, 0, 0, 796), 58, 0), ((156, .lsub, 1, 0, 0, 0, 0), 28, 0), ((157, .lstore_n 3, 1, 0, 0, 0, 0), 9, 3), ((158, .iinc 2 1, 3, 1, 0, 0, 0), 36, 2)],
  [((161, .goto (-69), 3, 92, 0, 0, 0), 37, 0), ((164, .iload 5, 2, 0, 0, 0, 0), 0, 5), ((166, .ifCond .eq 15, 3, 181, 0, 0, 0), 38, 0), ((169, .iload_n 2, 1, 0, 0, 0, 0), 1, 2), ((170, .iload_n 1, 1, 0, 0, 0, 0), 1, 1), ((171, .isub, 1, 0, 0, 0, 0), 17, 0), ((172, .bipush 19, 2, 19, 0, 0, 0), 13, 0), ((174, .if_icmp .gt 7, 3, 181, 0, 0, 0), 48, 0)],
  [((177, .iconst 1, 1, 1, 0, 0, 0), 12, 0), ((178, .goto 4, 3, 182, 0, 0, 0), 37, 0), ((181, .iconst 0, 1, 0, 0, 0, 0), 12, 0), ((182, .istore 5, 2, 0, 0, 0, 0), 6, 5), ((184, .aload_n 0, 1, 0, 0, 0, 0), 5, 0), ((185, .iload 5, 2, 0, 0, 0, 0), 0, 5), ((187, .ifCond .eq 29, 3, 216, 0, 0, 0), 38, 0), ((190, .aload_n 0, 1, 0, 0, 0, 0), 5, 0), ((191, .iload_n 2, 1, 0, 0, 0, 0), 1, 2)],
  [((192, .invokevirtual 517, 3, 28, 2, 0, 249), 56, 0), ((195, .invokestatic 562, 3, 197, 1, 0, 251), 57, 0), ((198, .ifCond .ne 18, 3, 216, 0, 0, 0), 39, 0), ((201, .aload_n 0, 1, 0, 0, 0, 0), 5, 0), ((202, .iload_n 2, 1, 0, 0, 0, 0), 1, 2), ((203, .invokevirtual 517, 3, 28, 2, 0, 249), 56, 0), ((206, .invokestatic 513, 3, 198, 1, 0, 253), 57, 0)],
  [((209, .ifCond .ne 7, 3, 216, 0, 0, 0), 39, 0), ((212, .iconst 2, 1, 2, 0, 0, 0), 12, 0), ((213, .goto 5, 3, 218, 0, 0, 0), 37, 0), ((216, .bipush 7, 2, 7, 0, 0, 0), 13, 0), ((218, .putfield 572, 3, 0, 67, 0, 250), 51, 0), ((221, .aload_n 0, 1, 0, 0, 0, 0), 5, 0), ((222, .lload_n 3, 1, 0, 0, 0, 0), 3, 3), ((223, .putfield 575, 3, 0, 68, 10, 257), 51, 0)],
  [((226, .aload_n 0, 1, 0, 0, 0, 0), 5, 0), ((227, .iload_n 2, 1, 0, 0, 0, 0), 1, 2), ((228, .putfield 565, 3, 0, 69, 0, 258), 51, 0), ((231, .return_, 1, 0, 0, 0, 0), 1000, 0)]])
def al_mX12_escape : ev_MeK := (al_yX12_escape, prog_14_method_23_code, 5, (some .int), [[((0, .aload_n 0, 1, 0, 0, 0, 0), 5, 0), ((1, .iload_n 1, 1, 0, 0, 0, 0), 1, 1), ((2, .invokevirtual 517, 3, 28, 2, 0, 249), 56, 0), ((5, .istore_n 2, 1, 0, 0, 0, 0), 7, 2), ((6, .iload_n 2, 1, 0, 0, 0, 0), 1, 2), ((7, .bipush 110, 2, 110, 0, 0, 0), 13, 0), ((9, .if_icmp .ne 8, 3, 17, 0, 0, 0), 45, 0), ((12, .bipush 10, 2, 10, 0, 0, 0), 13, 0), ((14, .goto 37, 3, 51, 0, 0, 0), 37, 0)],
  [((17, .iload_n 2, 1, 0, 0, 0, 0), 1, 2), ((18, .bipush 116, 2, 116, 0, 0, 0), 13, 0), ((20, .if_icmp .ne 8, 3, 28, 0, 0, 0), 45, 0), ((23, .bipush 9, 2, 9, 0, 0, 0), 13, 0), ((25, .goto 26, 3, 51, 0, 0, 0), 37, 0), ((28, .iload_n 2, 1, 0, 0, 0, 0), 1, 2), ((29, .bipush 92, 2, 92, 0, 0, 0), 13, 0), ((31, .if_icmp .eq 15, 3, 46, 0, 0, 0), 44, 0)],
  [((34, .iload_n 2, 1, 0, 0, 0, 0), 1, 2), ((35, .bipush 34, 2, 34, 0, 0, 0), 13, 0), ((37, .if_icmp .eq 9, 3, 46, 0, 0, 0), 44, 0), ((40, .iload_n 2, 1, 0, 0, 0, 0), 1, 2), ((41, .bipush 39, 2, 39, 0, 0, 0), 13, 0), ((43, .if_icmp .ne 7, 3, 50, 0, 0, 0), 45, 0), ((46, .iload_n 2, 1, 0, 0, 0, 0), 1, 2), ((47, .goto 4, 3, 51, 0, 0, 0), 37, 0)],
  [((50, .iconst (-1), 1, 4294967295, 0, 0, 0), 12, 0), ((51, .istore_n 3, 1, 0, 0, 0, 0), 7, 3), ((52, .iload_n 1, 1, 0, 0, 0, 0), 1, 1), ((53, .iconst 1, 1, 1, 0, 0, 0), 12, 0), ((54, .iadd, 1, 0, 0, 0, 0), 16, 0), ((55, .istore 4, 2, 0, 0, 0, 0), 6, 4), ((57, .iload_n 2, 1, 0, 0, 0, 0), 1, 2), ((58, .invokestatic 513, 3, 198, 1, 0, 253), 57, 0), ((61, .ifCond .eq 49, 3, 110, 0, 0, 0), 38, 0)],
  [((64, .iconst 0, 1, 0, 0, 0, 0), 12, 0), ((65, .istore_n 3, 1, 0, 0, 0, 0), 7, 3), ((66, .iload_n 1, 1, 0, 0, 0, 0), 1, 1), ((67, .istore 4, 2, 0, 0, 0, 0), 6, 4), ((69, .iload 4, 2, 0, 0, 0, 0), 0, 4), ((71, .iload_n 1, 1, 0, 0, 0, 0), 1, 1), ((72, .iconst 3, 1, 3, 0, 0, 0), 12, 0), ((73, .iadd, 1, 0, 0, 0, 0), 16, 0), ((74, .if_icmp .ge 36, 3, 110, 0, 0, 0), 47, 0), ((77, .aload_n 0, 1, 0, 0, 0, 0), 5, 0), ((78, .iload 4, 2, 0, 0, 0, 0), 0, 4)],
  [((80, .invokevirtual 517, 3, 28, 2, 0, 249), 56, 0), ((83, .invokestatic 513, 3, 198, 1, 0, 253), 57, 0), ((86, .ifCond .eq 24, 3, 110, 0, 0, 0), 38, 0), ((89, .bipush 10, 2, 10, 0, 0, 0), 13, 0), ((91, .iload_n 3, 1, 0, 0, 0, 0), 1, 3), ((92, .imul, 1, 0, 0, 0, 0), 18, 0), ((93, .aload_n 0, 1, 0, 0, 0, 0), 5, 0), ((94, .iload 4, 2, 0, 0, 0, 0), 0, 4)],
  [((96, .invokevirtual 517, 3, 28, 2, 0, 249), 56, 0), ((99, .iadd, 1, 0, 0, 0, 0), 16, 0), ((100, .bipush 48, 2, 48, 0, 0, 0), 13, 0), ((102, .isub, 1, 0, 0, 0, 0), 17, 0), ((103, .istore_n 3, 1, 0, 0, 0, 0), 7, 3), ((104, .iinc 4 1, 3, 1, 0, 0, 0), 36, 4), ((107, .goto (-38), 3, 69, 0, 0, 0), 37, 0), ((110, .iload_n 3, 1, 0, 0, 0, 0), 1, 3), ((111, .ifCond .lt 10, 3, 121, 0, 0, 0), 40, 0)],
  [((114, .iload_n 3, 1, 0, 0, 0, 0), 1, 3), ((115, .sipush 255, 3, 255, 0, 0, 0), 14, 0), ((118, .if_icmp .le 5, 3, 123, 0, 0, 0), 49, 0), ((121, .iconst (-1), 1, 4294967295, 0, 0, 0), 12, 0), ((122, .ireturn, 1, 0, 0, 0, 0), 1000, 0), ((123, .aload_n 0, 1, 0, 0, 0, 0), 5, 0), ((124, .getfield 33, 3, 0, 19, 20, 50), 50, 0), ((127, .aload_n 0, 1, 0, 0, 0, 0), 5, 0)],
  [((128, .getfield 338, 3, 0, 20, 0, 230), 50, 0), ((131, .iload_n 3, 1, 0, 0, 0, 0), 1, 3), ((132, .i2b, 1, 0, 0, 0, 0), 24, 0), ((133, .bastore, 1, 0, 0, 0, 0), 55, 0), ((134, .aload_n 0, 1, 0, 0, 0, 0), 5, 0), ((135, .dup, 1, 0, 0, 0, 0), 35, 0), ((136, .getfield 338, 3, 0, 20, 0, 230), 50, 0), ((139, .iconst 1, 1, 1, 0, 0, 0), 12, 0), ((140, .iadd, 1, 0, 0, 0, 0), 16, 0), ((141, .putfield 338, 3, 0, 20, 0, 230), 51, 0)],
  [((144, .iload 4, 2, 0, 0, 0, 0), 0, 4), ((146, .ireturn, 1, 0, 0, 0, 0), 1000, 0)]])
def al_mX12_readString : ev_MeK := (al_yX12_readString, prog_14_method_24_code, 4, none, [[((0, .aload_n 0, 1, 0, 0, 0, 0), 5, 0), ((1, .iload_n 1, 1, 0, 0, 0, 0), 1, 1), ((2, .invokevirtual 517, 3, 28, 2, 0, 249), 56, 0), ((5, .istore_n 2, 1, 0, 0, 0, 0), 7, 2), ((6, .iload_n 1, 1, 0, 0, 0, 0), 1, 1), ((7, .iconst 1, 1, 1, 0, 0, 0), 12, 0), ((8, .iadd, 1, 0, 0, 0, 0), 16, 0), ((9, .istore_n 3, 1, 0, 0, 0, 0), 7, 3), ((10, .aload_n 0, 1, 0, 0, 0, 0), 5, 0), ((11, .iconst 0, 1, 0, 0, 0, 0), 12, 0), ((12, .putfield 338, 3, 0, 20, 0, 230), 51, 0), ((15, .aload_n 0, 1, 0, 0, 0, 0), 5, 0)],
  [((16, .bipush 7, 2, 7, 0, 0, 0), 13, 0), ((18, .putfield 572, 3, 0, 67, 0, 250), 51, 0), ((21, .iload_n 3, 1, 0, 0, 0, 0), 1, 3), ((22, .ifCond .lt 96, 3, 118, 0, 0, 0), 40, 0), ((25, .iload_n 3, 1, 0, 0, 0, 0), 1, 3), ((26, .aload_n 0, 1, 0, 0, 0, 0), 5, 0), ((27, .getfield 506, 3, 0, 2, 0, 259), 50, 0), ((30, .if_icmp .ge 88, 3, 118, 0, 0, 0), 47, 0)],
  [((33, .aload_n 0, 1, 0, 0, 0, 0), 5, 0), ((34, .getfield 7, 3, 0, 1, 20, 41), 50, 0), ((37, .iload_n 3, 1, 0, 0, 0, 0), 1, 3), ((38, .iaload, 1, 0, 0, 0, 0), 52, 0), ((39, .iload_n 2, 1, 0, 0, 0, 0), 1, 2), ((40, .if_icmp .eq 78, 3, 118, 0, 0, 0), 44, 0), ((43, .aload_n 0, 1, 0, 0, 0, 0), 5, 0), ((44, .getfield 7, 3, 0, 1, 20, 41), 50, 0), ((47, .iload_n 3, 1, 0, 0, 0, 0), 1, 3)],
  [((48, .iaload, 1, 0, 0, 0, 0), 52, 0), ((49, .bipush 10, 2, 10, 0, 0, 0), 13, 0), ((51, .if_icmp .eq 67, 3, 118, 0, 0, 0), 44, 0), ((54, .aload_n 0, 1, 0, 0, 0, 0), 5, 0), ((55, .getfield 338, 3, 0, 20, 0, 230), 50, 0), ((58, .sipush 200, 3, 200, 0, 0, 0), 14, 0), ((61, .if_icmp .gt 57, 3, 118, 0, 0, 0), 48, 0)],
  [((64, .aload_n 0, 1, 0, 0, 0, 0), 5, 0), ((65, .getfield 7, 3, 0, 1, 20, 41), 50, 0), ((68, .iload_n 3, 1, 0, 0, 0, 0), 1, 3), ((69, .iaload, 1, 0, 0, 0, 0), 52, 0), ((70, .bipush 92, 2, 92, 0, 0, 0), 13, 0), ((72, .if_icmp .ne 14, 3, 86, 0, 0, 0), 45, 0), ((75, .aload_n 0, 1, 0, 0, 0, 0), 5, 0), ((76, .iload_n 3, 1, 0, 0, 0, 0), 1, 3), ((77, .iconst 1, 1, 1, 0, 0, 0), 12, 0), ((78, .iadd, 1, 0, 0, 0, 0), 16, 0), ((79, .invokevirtual 588, 3, 204, 2, 0, 797), 56, 0)],
  [((82, .istore_n 3, 1, 0, 0, 0, 0), 7, 3), ((83, .goto (-62), 3, 21, 0, 0, 0), 37, 0), ((86, .aload_n 0, 1, 0, 0, 0, 0), 5, 0), ((87, .getfield 33, 3, 0, 19, 20, 50), 50, 0), ((90, .aload_n 0, 1, 0, 0, 0, 0), 5, 0), ((91, .getfield 338, 3, 0, 20, 0, 230), 50, 0), ((94, .aload_n 0, 1, 0, 0, 0, 0), 5, 0), ((95, .getfield 7, 3, 0, 1, 20, 41), 50, 0)],
  [((98, .iload_n 3, 1, 0, 0, 0, 0), 1, 3), ((99, .iaload, 1, 0, 0, 0, 0), 52, 0), ((100, .i2b, 1, 0, 0, 0, 0), 24, 0), ((101, .bastore, 1, 0, 0, 0, 0), 55, 0), ((102, .aload_n 0, 1, 0, 0, 0, 0), 5, 0), ((103, .dup, 1, 0, 0, 0, 0), 35, 0), ((104, .getfield 338, 3, 0, 20, 0, 230), 50, 0), ((107, .iconst 1, 1, 1, 0, 0, 0), 12, 0), ((108, .iadd, 1, 0, 0, 0, 0), 16, 0), ((109, .putfield 338, 3, 0, 20, 0, 230), 51, 0)],
  [((112, .iinc 3 1, 3, 1, 0, 0, 0), 36, 3), ((115, .goto (-94), 3, 21, 0, 0, 0), 37, 0), ((118, .iload_n 3, 1, 0, 0, 0, 0), 1, 3), ((119, .ifCond .lt 44, 3, 163, 0, 0, 0), 40, 0), ((122, .aload_n 0, 1, 0, 0, 0, 0), 5, 0), ((123, .iload_n 3, 1, 0, 0, 0, 0), 1, 3), ((124, .invokevirtual 517, 3, 28, 2, 0, 249), 56, 0), ((127, .iload_n 2, 1, 0, 0, 0, 0), 1, 2)],
  [((128, .if_icmp .ne 35, 3, 163, 0, 0, 0), 45, 0), ((131, .aload_n 0, 1, 0, 0, 0, 0), 5, 0), ((132, .getfield 338, 3, 0, 20, 0, 230), 50, 0), ((135, .sipush 200, 3, 200, 0, 0, 0), 14, 0), ((138, .if_icmp .gt 25, 3, 163, 0, 0, 0), 48, 0), ((141, .aload_n 0, 1, 0, 0, 0, 0), 5, 0), ((142, .iconst 3, 1, 3, 0, 0, 0), 12, 0), ((143, .putfield 572, 3, 0, 67, 0, 250), 51, 0)],
  [((146, .aload_n 0, 1, 0, 0, 0, 0), 5, 0), ((147, .aload_n 0, 1, 0, 0, 0, 0), 5, 0), ((148, .iconst 1, 1, 1, 0, 0, 0), 12, 0), ((149, .invokevirtual 349, 3, 22, 2, 0, 232), 56, 0), ((152, .i2l, 1, 0, 0, 0, 0), 26, 0), ((153, .putfield 575, 3, 0, 68, 10, 257), 51, 0), ((156, .aload_n 0, 1, 0, 0, 0, 0), 5, 0), ((157, .iload_n 3, 1, 0, 0, 0, 0), 1, 3), ((158, .iconst 1, 1, 1, 0, 0, 0), 12, 0), ((159, .iadd, 1, 0, 0, 0, 0), 16, 0)],
  [((160, .putfield 565, 3, 0, 69, 0, 258), 51, 0), ((163, .return_, 1, 0, 0, 0, 0), 1000, 0)]])
def al_mX12_pair : ev_MeK := (al_yX12_pair, prog_14_method_25_code, 2, (some .int), [[((0, .iload_n 0, 1, 0, 0, 0, 0), 1, 0), ((1, .bipush 61, 2, 61, 0, 0, 0), 13, 0), ((3, .if_icmp .ne 13, 3, 16, 0, 0, 0), 45, 0), ((6, .iload_n 1, 1, 0, 0, 0, 0), 1, 1), ((7, .bipush 61, 2, 61, 0, 0, 0), 13, 0), ((9, .if_icmp .ne 7, 3, 16, 0, 0, 0), 45, 0), ((12, .sipush 302, 3, 302, 0, 0, 0), 14, 0), ((15, .ireturn, 1, 0, 0, 0, 0), 1000, 0)],
  [((16, .iload_n 0, 1, 0, 0, 0, 0), 1, 0), ((17, .bipush 126, 2, 126, 0, 0, 0), 13, 0), ((19, .if_icmp .ne 13, 3, 32, 0, 0, 0), 45, 0), ((22, .iload_n 1, 1, 0, 0, 0, 0), 1, 1), ((23, .bipush 61, 2, 61, 0, 0, 0), 13, 0), ((25, .if_icmp .ne 7, 3, 32, 0, 0, 0), 45, 0), ((28, .sipush 303, 3, 303, 0, 0, 0), 14, 0), ((31, .ireturn, 1, 0, 0, 0, 0), 1000, 0)],
  [((32, .iload_n 0, 1, 0, 0, 0, 0), 1, 0), ((33, .bipush 60, 2, 60, 0, 0, 0), 13, 0), ((35, .if_icmp .ne 13, 3, 48, 0, 0, 0), 45, 0), ((38, .iload_n 1, 1, 0, 0, 0, 0), 1, 1), ((39, .bipush 61, 2, 61, 0, 0, 0), 13, 0), ((41, .if_icmp .ne 7, 3, 48, 0, 0, 0), 45, 0), ((44, .sipush 304, 3, 304, 0, 0, 0), 14, 0), ((47, .ireturn, 1, 0, 0, 0, 0), 1000, 0)],
  [((48, .iload_n 0, 1, 0, 0, 0, 0), 1, 0), ((49, .bipush 62, 2, 62, 0, 0, 0), 13, 0), ((51, .if_icmp .ne 13, 3, 64, 0, 0, 0), 45, 0), ((54, .iload_n 1, 1, 0, 0, 0, 0), 1, 1), ((55, .bipush 61, 2, 61, 0, 0, 0), 13, 0), ((57, .if_icmp .ne 7, 3, 64, 0, 0, 0), 45, 0), ((60, .sipush 305, 3, 305, 0, 0, 0), 14, 0), ((63, .ireturn, 1, 0, 0, 0, 0), 1000, 0)],
  [((64, .iload_n 0, 1, 0, 0, 0, 0), 1, 0), ((65, .bipush 60, 2, 60, 0, 0, 0), 13, 0), ((67, .if_icmp .ne 13, 3, 80, 0, 0, 0), 45, 0), ((70, .iload_n 1, 1, 0, 0, 0, 0), 1, 1), ((71, .bipush 60, 2, 60, 0, 0, 0), 13, 0), ((73, .if_icmp .ne 7, 3, 80, 0, 0, 0), 45, 0), ((76, .sipush 306, 3, 306, 0, 0, 0), 14, 0), ((79, .ireturn, 1, 0, 0, 0, 0), 1000, 0)],
  [((80, .iload_n 0, 1, 0, 0, 0, 0), 1, 0), ((81, .bipush 62, 2, 62, 0, 0, 0), 13, 0), ((83, .if_icmp .ne 13, 3, 96, 0, 0, 0), 45, 0), ((86, .iload_n 1, 1, 0, 0, 0, 0), 1, 1), ((87, .bipush 62, 2, 62, 0, 0, 0), 13, 0), ((89, .if_icmp .ne 7, 3, 96, 0, 0, 0), 45, 0), ((92, .sipush 307, 3, 307, 0, 0, 0), 14, 0), ((95, .ireturn, 1, 0, 0, 0, 0), 1000, 0)],
  [((96, .iload_n 0, 1, 0, 0, 0, 0), 1, 0), ((97, .bipush 47, 2, 47, 0, 0, 0), 13, 0), ((99, .if_icmp .ne 13, 3, 112, 0, 0, 0), 45, 0), ((102, .iload_n 1, 1, 0, 0, 0, 0), 1, 1), ((103, .bipush 47, 2, 47, 0, 0, 0), 13, 0), ((105, .if_icmp .ne 7, 3, 112, 0, 0, 0), 45, 0), ((108, .sipush 308, 3, 308, 0, 0, 0), 14, 0), ((111, .ireturn, 1, 0, 0, 0, 0), 1000, 0)],
  [((112, .iload_n 0, 1, 0, 0, 0, 0), 1, 0), ((113, .bipush 46, 2, 46, 0, 0, 0), 13, 0), ((115, .if_icmp .ne 15, 3, 130, 0, 0, 0), 45, 0), ((118, .iload_n 1, 1, 0, 0, 0, 0), 1, 1), ((119, .bipush 46, 2, 46, 0, 0, 0), 13, 0), ((121, .if_icmp .ne 9, 3, 130, 0, 0, 0), 45, 0), ((124, .sipush 300, 3, 300, 0, 0, 0), 14, 0), ((127, .goto 4, 3, 131, 0, 0, 0), 37, 0)],
  [((130, .iconst 0, 1, 0, 0, 0, 0), 12, 0), ((131, .ireturn, 1, 0, 0, 0, 0), 1000, 0)]])
def al_mX12_isAlone : ev_MeK := (al_yX12_isAlone, prog_14_method_26_code, 1, (some .boolean), [[((0, .iload_n 0, 1, 0, 0, 0, 0), 1, 0), ((1, .tableswitch 385 35 126 #[383, 385, 383, 383, 385, 383, 383, 383, 383, 383, 383, 383, 385, 385, 385, 385, 385, 385, 385, 385, 385, 385, 385, 383, 383, 383, 383, 383, 385, 385, 385, 385, 385, 385, 385, 385, 385, 385, 385, 385, 385, 385, 385, 385, 385, 385, 385, 385, 385, 385, 385, 385, 385, 385, 385, 385, 383, 385, 383, 385, 385, 385, 385, 385, 385, 385, 385, 385, 385, 385, 385, 385, 385, 385, 385, 385, 385, 385, 385, 385, 385, 385, 385, 385, 385, 385, 385, 385, 383, 383, 383, 383], 383, 0, 0, 0, 0), 58, 0)],
  [],
  [],
  [],
  [],
  [],
  [],
  [],
  [],
  [],
  [],
  [],
  [],
  [],
  [],
  [],
  [],
  [],
  [],
  [],
  [],
  [],
  [],
  [],
  [((384, .iconst 1, 1, 1, 0, 0, 0), 12, 0), ((385, .ireturn, 1, 0, 0, 0, 0), 1000, 0), ((386, .iconst 0, 1, 0, 0, 0, 0), 12, 0), ((387, .ireturn, 1, 0, 0, 0, 0), 1000, 0)]])
def al_mX12_readSign : ev_MeK := (al_yX12_readSign, prog_14_method_27_code, 4, none, [[((0, .aload_n 0, 1, 0, 0, 0, 0), 5, 0), ((1, .iload_n 1, 1, 0, 0, 0, 0), 1, 1), ((2, .invokevirtual 517, 3, 28, 2, 0, 249), 56, 0), ((5, .istore_n 2, 1, 0, 0, 0, 0), 7, 2), ((6, .iload_n 2, 1, 0, 0, 0, 0), 1, 2), ((7, .aload_n 0, 1, 0, 0, 0, 0), 5, 0), ((8, .iload_n 1, 1, 0, 0, 0, 0), 1, 1), ((9, .iconst 1, 1, 1, 0, 0, 0), 12, 0), ((10, .iadd, 1, 0, 0, 0, 0), 16, 0), ((11, .invokevirtual 517, 3, 28, 2, 0, 249), 56, 0), ((14, .invokestatic 591, 3, 206, 2, 0, 798), 57, 0)],
  [((17, .istore_n 3, 1, 0, 0, 0, 0), 7, 3), ((18, .aload_n 0, 1, 0, 0, 0, 0), 5, 0), ((19, .iconst 5, 1, 5, 0, 0, 0), 12, 0), ((20, .putfield 572, 3, 0, 67, 0, 250), 51, 0), ((23, .iload_n 3, 1, 0, 0, 0, 0), 1, 3), ((24, .sipush 300, 3, 300, 0, 0, 0), 14, 0), ((27, .if_icmp .ne 32, 3, 59, 0, 0, 0), 45, 0), ((30, .aload_n 0, 1, 0, 0, 0, 0), 5, 0), ((31, .iload_n 1, 1, 0, 0, 0, 0), 1, 1)],
  [((32, .iconst 2, 1, 2, 0, 0, 0), 12, 0), ((33, .iadd, 1, 0, 0, 0, 0), 16, 0), ((34, .invokevirtual 517, 3, 28, 2, 0, 249), 56, 0), ((37, .bipush 46, 2, 46, 0, 0, 0), 13, 0), ((39, .if_icmp .ne 20, 3, 59, 0, 0, 0), 45, 0), ((42, .aload_n 0, 1, 0, 0, 0, 0), 5, 0), ((43, .ldc2_w 594, 3, 301, 0, 0, 799), 58, 0), ((46, .putfield 575, 3, 0, 68, 10, 257), 51, 0)],
  [((49, .aload_n 0, 1, 0, 0, 0, 0), 5, 0), ((50, .iload_n 1, 1, 0, 0, 0, 0), 1, 1), ((51, .iconst 3, 1, 3, 0, 0, 0), 12, 0), ((52, .iadd, 1, 0, 0, 0, 0), 16, 0), ((53, .putfield 565, 3, 0, 69, 0, 258), 51, 0), ((56, .goto 53, 3, 109, 0, 0, 0), 37, 0), ((59, .iload_n 3, 1, 0, 0, 0, 0), 1, 3), ((60, .ifCond .le 19, 3, 79, 0, 0, 0), 43, 0), ((63, .aload_n 0, 1, 0, 0, 0, 0), 5, 0)],
  [((64, .iload_n 3, 1, 0, 0, 0, 0), 1, 3), ((65, .i2l, 1, 0, 0, 0, 0), 26, 0), ((66, .putfield 575, 3, 0, 68, 10, 257), 51, 0), ((69, .aload_n 0, 1, 0, 0, 0, 0), 5, 0), ((70, .iload_n 1, 1, 0, 0, 0, 0), 1, 1), ((71, .iconst 2, 1, 2, 0, 0, 0), 12, 0), ((72, .iadd, 1, 0, 0, 0, 0), 16, 0), ((73, .putfield 565, 3, 0, 69, 0, 258), 51, 0), ((76, .goto 33, 3, 109, 0, 0, 0), 37, 0), ((79, .aload_n 0, 1, 0, 0, 0, 0), 5, 0)],
  [((80, .iload_n 2, 1, 0, 0, 0, 0), 1, 2), ((81, .invokestatic 596, 3, 207, 1, 0, 800), 57, 0), ((84, .ifCond .eq 7, 3, 91, 0, 0, 0), 38, 0), ((87, .iconst 5, 1, 5, 0, 0, 0), 12, 0), ((88, .goto 5, 3, 93, 0, 0, 0), 37, 0), ((91, .bipush 7, 2, 7, 0, 0, 0), 13, 0), ((93, .putfield 572, 3, 0, 67, 0, 250), 51, 0)],
  [((96, .aload_n 0, 1, 0, 0, 0, 0), 5, 0), ((97, .iload_n 2, 1, 0, 0, 0, 0), 1, 2), ((98, .i2l, 1, 0, 0, 0, 0), 26, 0), ((99, .putfield 575, 3, 0, 68, 10, 257), 51, 0), ((102, .aload_n 0, 1, 0, 0, 0, 0), 5, 0), ((103, .iload_n 1, 1, 0, 0, 0, 0), 1, 1), ((104, .iconst 1, 1, 1, 0, 0, 0), 12, 0), ((105, .iadd, 1, 0, 0, 0, 0), 16, 0), ((106, .putfield 565, 3, 0, 69, 0, 258), 51, 0), ((109, .return_, 1, 0, 0, 0, 0), 1000, 0)]])
def al_mX12_fail : ev_MeK := (al_yX12_fail, prog_14_method_29_code, 3, (some .boolean), [[((0, .aload_n 0, 1, 0, 0, 0, 0), 5, 0), ((1, .getfield 618, 3, 0, 4, 0, 237), 50, 0), ((4, .ifCond .ne 13, 3, 17, 0, 0, 0), 39, 0), ((7, .aload_n 0, 1, 0, 0, 0, 0), 5, 0), ((8, .iload_n 1, 1, 0, 0, 0, 0), 1, 1), ((9, .putfield 618, 3, 0, 4, 0, 237), 51, 0), ((12, .aload_n 0, 1, 0, 0, 0, 0), 5, 0), ((13, .iload_n 2, 1, 0, 0, 0, 0), 1, 2), ((14, .putfield 621, 3, 0, 5, 0, 240), 51, 0)],
  [((17, .iconst 0, 1, 0, 0, 0, 0), 12, 0), ((18, .ireturn, 1, 0, 0, 0, 0), 1000, 0)]])
def al_mX12_here : ev_MeK := (al_yX12_here, prog_14_method_30_code, 1, (some .int), [[((0, .aload_n 0, 1, 0, 0, 0, 0), 5, 0), ((1, .getfield 39, 3, 0, 22, 20, 52), 50, 0), ((4, .aload_n 0, 1, 0, 0, 0, 0), 5, 0), ((5, .getfield 624, 3, 0, 25, 0, 260), 50, 0), ((8, .iaload, 1, 0, 0, 0, 0), 52, 0), ((9, .ireturn, 1, 0, 0, 0, 0), 1000, 0)]])
def al_mX12_wrong : ev_MeK := (al_yX12_wrong, prog_14_method_31_code, 1, (some .boolean), [[((0, .aload_n 0, 1, 0, 0, 0, 0), 5, 0), ((1, .aload_n 0, 1, 0, 0, 0, 0), 5, 0), ((2, .getfield 36, 3, 0, 21, 20, 51), 50, 0), ((5, .aload_n 0, 1, 0, 0, 0, 0), 5, 0), ((6, .getfield 624, 3, 0, 25, 0, 260), 50, 0), ((9, .iaload, 1, 0, 0, 0, 0), 52, 0), ((10, .bipush 7, 2, 7, 0, 0, 0), 13, 0), ((12, .if_icmp .ne 7, 3, 19, 0, 0, 0), 45, 0), ((15, .iconst 1, 1, 1, 0, 0, 0), 12, 0)],
  [((16, .goto 4, 3, 20, 0, 0, 0), 37, 0), ((19, .iconst 2, 1, 2, 0, 0, 0), 12, 0), ((20, .aload_n 0, 1, 0, 0, 0, 0), 5, 0), ((21, .invokevirtual 627, 3, 210, 1, 0, 801), 56, 0), ((24, .invokevirtual 631, 3, 209, 3, 0, 802), 56, 0), ((27, .ireturn, 1, 0, 0, 0, 0), 1000, 0)]])
def al_mX12_take : ev_MeK := (al_yX12_take, prog_14_method_32_code, 1, (some .boolean), [[((0, .aload_n 0, 1, 0, 0, 0, 0), 5, 0), ((1, .getfield 36, 3, 0, 21, 20, 51), 50, 0), ((4, .aload_n 0, 1, 0, 0, 0, 0), 5, 0), ((5, .getfield 624, 3, 0, 25, 0, 260), 50, 0), ((8, .iaload, 1, 0, 0, 0, 0), 52, 0), ((9, .bipush 7, 2, 7, 0, 0, 0), 13, 0), ((11, .if_icmp .ne 13, 3, 24, 0, 0, 0), 45, 0), ((14, .aload_n 0, 1, 0, 0, 0, 0), 5, 0), ((15, .iconst 1, 1, 1, 0, 0, 0), 12, 0)],
  [((16, .aload_n 0, 1, 0, 0, 0, 0), 5, 0), ((17, .invokevirtual 627, 3, 210, 1, 0, 801), 56, 0), ((20, .invokevirtual 631, 3, 209, 3, 0, 802), 56, 0), ((23, .ireturn, 1, 0, 0, 0, 0), 1000, 0), ((24, .aload_n 0, 1, 0, 0, 0, 0), 5, 0), ((25, .getfield 624, 3, 0, 25, 0, 260), 50, 0), ((28, .sipush 1500, 3, 1500, 0, 0, 0), 14, 0), ((31, .if_icmp .ne 13, 3, 44, 0, 0, 0), 45, 0)],
  [((34, .aload_n 0, 1, 0, 0, 0, 0), 5, 0), ((35, .iconst 3, 1, 3, 0, 0, 0), 12, 0), ((36, .aload_n 0, 1, 0, 0, 0, 0), 5, 0), ((37, .invokevirtual 627, 3, 210, 1, 0, 801), 56, 0), ((40, .invokevirtual 631, 3, 209, 3, 0, 802), 56, 0), ((43, .ireturn, 1, 0, 0, 0, 0), 1000, 0), ((44, .aload_n 0, 1, 0, 0, 0, 0), 5, 0), ((45, .dup, 1, 0, 0, 0, 0), 35, 0), ((46, .getfield 624, 3, 0, 25, 0, 260), 50, 0)],
  [((49, .iconst 1, 1, 1, 0, 0, 0), 12, 0), ((50, .iadd, 1, 0, 0, 0, 0), 16, 0), ((51, .putfield 624, 3, 0, 25, 0, 260), 51, 0), ((54, .iconst 1, 1, 1, 0, 0, 0), 12, 0), ((55, .ireturn, 1, 0, 0, 0, 0), 1000, 0)]])
def al_mX12_needSign : ev_MeK := (al_yX12_needSign, prog_14_method_35_code, 2, (some .boolean), [[((0, .aload_n 0, 1, 0, 0, 0, 0), 5, 0), ((1, .iload_n 1, 1, 0, 0, 0, 0), 1, 1), ((2, .invokevirtual 635, 3, 36, 2, 0, 299), 56, 0), ((5, .ifCond .eq 10, 3, 15, 0, 0, 0), 38, 0), ((8, .aload_n 0, 1, 0, 0, 0, 0), 5, 0), ((9, .invokevirtual 638, 3, 212, 1, 0, 294), 56, 0), ((12, .goto 7, 3, 19, 0, 0, 0), 37, 0), ((15, .aload_n 0, 1, 0, 0, 0, 0), 5, 0)],
  [((16, .invokevirtual 642, 3, 211, 1, 0, 319), 56, 0), ((19, .ireturn, 1, 0, 0, 0, 0), 1000, 0)]])
def al_mX12_needWord : ev_MeK := (al_yX12_needWord, prog_14_method_36_code, 2, (some .boolean), [[((0, .aload_n 0, 1, 0, 0, 0, 0), 5, 0), ((1, .iload_n 1, 1, 0, 0, 0, 0), 1, 1), ((2, .invokevirtual 645, 3, 34, 2, 0, 292), 56, 0), ((5, .ifCond .eq 10, 3, 15, 0, 0, 0), 38, 0), ((8, .aload_n 0, 1, 0, 0, 0, 0), 5, 0), ((9, .invokevirtual 638, 3, 212, 1, 0, 294), 56, 0), ((12, .goto 7, 3, 19, 0, 0, 0), 37, 0), ((15, .aload_n 0, 1, 0, 0, 0, 0), 5, 0)],
  [((16, .invokevirtual 642, 3, 211, 1, 0, 319), 56, 0), ((19, .ireturn, 1, 0, 0, 0, 0), 1000, 0)]])
def al_mX12_lineHere : ev_MeK := (al_yX12_lineHere, prog_14_method_37_code, 1, (some .int), [[((0, .aload_n 0, 1, 0, 0, 0, 0), 5, 0), ((1, .aload_n 0, 1, 0, 0, 0, 0), 5, 0), ((2, .invokevirtual 627, 3, 210, 1, 0, 801), 56, 0), ((5, .invokevirtual 648, 3, 196, 2, 0, 241), 56, 0), ((8, .ireturn, 1, 0, 0, 0, 0), 1000, 0)]])
def al_mX12_enter : ev_MeK := (al_yX12_enter, prog_14_method_40_code, 1, (some .boolean), [[((0, .aload_n 0, 1, 0, 0, 0, 0), 5, 0), ((1, .getfield 657, 3, 0, 47, 0, 262), 50, 0), ((4, .bipush 20, 2, 20, 0, 0, 0), 13, 0), ((6, .if_icmp .ne 13, 3, 19, 0, 0, 0), 45, 0), ((9, .aload_n 0, 1, 0, 0, 0, 0), 5, 0), ((10, .iconst 3, 1, 3, 0, 0, 0), 12, 0), ((11, .aload_n 0, 1, 0, 0, 0, 0), 5, 0), ((12, .invokevirtual 627, 3, 210, 1, 0, 801), 56, 0), ((15, .invokevirtual 631, 3, 209, 3, 0, 802), 56, 0)],
  [((18, .ireturn, 1, 0, 0, 0, 0), 1000, 0), ((19, .aload_n 0, 1, 0, 0, 0, 0), 5, 0), ((20, .dup, 1, 0, 0, 0, 0), 35, 0), ((21, .getfield 657, 3, 0, 47, 0, 262), 50, 0), ((24, .iconst 1, 1, 1, 0, 0, 0), 12, 0), ((25, .iadd, 1, 0, 0, 0, 0), 16, 0), ((26, .putfield 657, 3, 0, 47, 0, 262), 51, 0), ((29, .iconst 1, 1, 1, 0, 0, 0), 12, 0), ((30, .ireturn, 1, 0, 0, 0, 0), 1000, 0)]])
def al_mX12_beginsE : ev_MeK := (al_yX12_beginsE, prog_14_method_41_code, 2, (some .boolean), [[((0, .aload_n 0, 1, 0, 0, 0, 0), 5, 0), ((1, .getfield 36, 3, 0, 21, 20, 51), 50, 0), ((4, .aload_n 0, 1, 0, 0, 0, 0), 5, 0), ((5, .getfield 624, 3, 0, 25, 0, 260), 50, 0), ((8, .iaload, 1, 0, 0, 0, 0), 52, 0), ((9, .iconst 1, 1, 1, 0, 0, 0), 12, 0), ((10, .if_icmp .eq 29, 3, 39, 0, 0, 0), 44, 0), ((13, .aload_n 0, 1, 0, 0, 0, 0), 5, 0), ((14, .getfield 36, 3, 0, 21, 20, 51), 50, 0)],
  [((17, .aload_n 0, 1, 0, 0, 0, 0), 5, 0), ((18, .getfield 624, 3, 0, 25, 0, 260), 50, 0), ((21, .iaload, 1, 0, 0, 0, 0), 52, 0), ((22, .iconst 2, 1, 2, 0, 0, 0), 12, 0), ((23, .if_icmp .eq 16, 3, 39, 0, 0, 0), 44, 0), ((26, .aload_n 0, 1, 0, 0, 0, 0), 5, 0), ((27, .getfield 36, 3, 0, 21, 20, 51), 50, 0), ((30, .aload_n 0, 1, 0, 0, 0, 0), 5, 0), ((31, .getfield 624, 3, 0, 25, 0, 260), 50, 0)],
  [((34, .iaload, 1, 0, 0, 0, 0), 52, 0), ((35, .iconst 3, 1, 3, 0, 0, 0), 12, 0), ((36, .if_icmp .ne 5, 3, 41, 0, 0, 0), 45, 0), ((39, .iconst 1, 1, 1, 0, 0, 0), 12, 0), ((40, .ireturn, 1, 0, 0, 0, 0), 1000, 0), ((41, .aload_n 0, 1, 0, 0, 0, 0), 5, 0), ((42, .getfield 36, 3, 0, 21, 20, 51), 50, 0), ((45, .aload_n 0, 1, 0, 0, 0, 0), 5, 0), ((46, .getfield 624, 3, 0, 25, 0, 260), 50, 0)],
  [((49, .iaload, 1, 0, 0, 0, 0), 52, 0), ((50, .iconst 4, 1, 4, 0, 0, 0), 12, 0), ((51, .if_icmp .ne 50, 3, 101, 0, 0, 0), 45, 0), ((54, .aload_n 0, 1, 0, 0, 0, 0), 5, 0), ((55, .getfield 42, 3, 0, 23, 20, 54), 50, 0), ((58, .aload_n 0, 1, 0, 0, 0, 0), 5, 0), ((59, .getfield 624, 3, 0, 25, 0, 260), 50, 0), ((62, .laload, 1, 0, 0, 0, 0), 58, 0), ((63, .l2i, 1, 0, 0, 0, 0), 33, 0)],
  [((64, .istore_n 1, 1, 0, 0, 0, 0), 7, 1), ((65, .iload_n 1, 1, 0, 0, 0, 0), 1, 1), ((66, .bipush 13, 2, 13, 0, 0, 0), 13, 0), ((68, .if_icmp .eq 27, 3, 95, 0, 0, 0), 44, 0), ((71, .iload_n 1, 1, 0, 0, 0, 0), 1, 1), ((72, .bipush 7, 2, 7, 0, 0, 0), 13, 0), ((74, .if_icmp .eq 21, 3, 95, 0, 0, 0), 44, 0), ((77, .iload_n 1, 1, 0, 0, 0, 0), 1, 1), ((78, .bipush 19, 2, 19, 0, 0, 0), 13, 0)],
  [((80, .if_icmp .eq 15, 3, 95, 0, 0, 0), 44, 0), ((83, .iload_n 1, 1, 0, 0, 0, 0), 1, 1), ((84, .bipush 14, 2, 14, 0, 0, 0), 13, 0), ((86, .if_icmp .eq 9, 3, 95, 0, 0, 0), 44, 0), ((89, .iload_n 1, 1, 0, 0, 0, 0), 1, 1), ((90, .bipush 9, 2, 9, 0, 0, 0), 13, 0), ((92, .if_icmp .ne 7, 3, 99, 0, 0, 0), 45, 0), ((95, .iconst 1, 1, 1, 0, 0, 0), 12, 0)],
  [((96, .goto 4, 3, 100, 0, 0, 0), 37, 0), ((99, .iconst 0, 1, 0, 0, 0, 0), 12, 0), ((100, .ireturn, 1, 0, 0, 0, 0), 1000, 0), ((101, .aload_n 0, 1, 0, 0, 0, 0), 5, 0), ((102, .sipush 301, 3, 301, 0, 0, 0), 14, 0), ((105, .invokevirtual 635, 3, 36, 2, 0, 299), 56, 0), ((108, .ifCond .ne 48, 3, 156, 0, 0, 0), 39, 0), ((111, .aload_n 0, 1, 0, 0, 0, 0), 5, 0)],
  [((112, .bipush 123, 2, 123, 0, 0, 0), 13, 0), ((114, .invokevirtual 635, 3, 36, 2, 0, 299), 56, 0), ((117, .ifCond .ne 39, 3, 156, 0, 0, 0), 39, 0), ((120, .aload_n 0, 1, 0, 0, 0, 0), 5, 0), ((121, .bipush 40, 2, 40, 0, 0, 0), 13, 0), ((123, .invokevirtual 635, 3, 36, 2, 0, 299), 56, 0), ((126, .ifCond .ne 30, 3, 156, 0, 0, 0), 39, 0)],
  [((129, .aload_n 0, 1, 0, 0, 0, 0), 5, 0), ((130, .bipush 35, 2, 35, 0, 0, 0), 13, 0), ((132, .invokevirtual 635, 3, 36, 2, 0, 299), 56, 0), ((135, .ifCond .ne 21, 3, 156, 0, 0, 0), 39, 0), ((138, .aload_n 0, 1, 0, 0, 0, 0), 5, 0), ((139, .bipush 45, 2, 45, 0, 0, 0), 13, 0), ((141, .invokevirtual 635, 3, 36, 2, 0, 299), 56, 0)],
  [((144, .ifCond .ne 12, 3, 156, 0, 0, 0), 39, 0), ((147, .aload_n 0, 1, 0, 0, 0, 0), 5, 0), ((148, .bipush 126, 2, 126, 0, 0, 0), 13, 0), ((150, .invokevirtual 635, 3, 36, 2, 0, 299), 56, 0), ((153, .ifCond .eq 7, 3, 160, 0, 0, 0), 38, 0), ((156, .iconst 1, 1, 1, 0, 0, 0), 12, 0), ((157, .goto 4, 3, 161, 0, 0, 0), 37, 0)],
  [((160, .iconst 0, 1, 0, 0, 0, 0), 12, 0), ((161, .ireturn, 1, 0, 0, 0, 0), 1000, 0)]])
def al_mX12_proto : ev_MeK := (al_yX12_proto, prog_14_method_43_code, 1, (some .int), [[((0, .aload_n 0, 1, 0, 0, 0, 0), 5, 0), ((1, .getfield 107, 3, 0, 52, 20, 76), 50, 0), ((4, .aload_n 0, 1, 0, 0, 0, 0), 5, 0), ((5, .getfield 660, 3, 0, 53, 0, 264), 50, 0), ((8, .iaload, 1, 0, 0, 0, 0), 52, 0), ((9, .ireturn, 1, 0, 0, 0, 0), 1000, 0)]])
def al_mX12_countLocal : ev_MeK := (al_yX12_countLocal, prog_14_method_44_code, 3, (some .int), [[((0, .aload_n 0, 1, 0, 0, 0, 0), 5, 0), ((1, .invokevirtual 663, 3, 218, 1, 0, 803), 56, 0), ((4, .istore_n 2, 1, 0, 0, 0, 0), 7, 2), ((5, .aload_n 0, 1, 0, 0, 0, 0), 5, 0), ((6, .getfield 52, 3, 0, 28, 20, 57), 50, 0), ((9, .iload_n 2, 1, 0, 0, 0, 0), 1, 2), ((10, .iaload, 1, 0, 0, 0, 0), 52, 0), ((11, .bipush 50, 2, 50, 0, 0, 0), 13, 0), ((13, .if_icmp .ne 12, 3, 25, 0, 0, 0), 45, 0)],
  [((16, .aload_n 0, 1, 0, 0, 0, 0), 5, 0), ((17, .iconst 3, 1, 3, 0, 0, 0), 12, 0), ((18, .iload_n 1, 1, 0, 0, 0, 0), 1, 1), ((19, .invokevirtual 631, 3, 209, 3, 0, 802), 56, 0), ((22, .pop, 1, 0, 0, 0, 0), 58, 0), ((23, .iconst (-1), 1, 4294967295, 0, 0, 0), 12, 0), ((24, .ireturn, 1, 0, 0, 0, 0), 1000, 0), ((25, .aload_n 0, 1, 0, 0, 0, 0), 5, 0), ((26, .getfield 52, 3, 0, 28, 20, 57), 50, 0), ((29, .iload_n 2, 1, 0, 0, 0, 0), 1, 2), ((30, .dup2, 1, 0, 0, 0, 0), 58, 0), ((31, .iaload, 1, 0, 0, 0, 0), 52, 0)],
  [((32, .iconst 1, 1, 1, 0, 0, 0), 12, 0), ((33, .iadd, 1, 0, 0, 0, 0), 16, 0), ((34, .iastore, 1, 0, 0, 0, 0), 53, 0), ((35, .aload_n 0, 1, 0, 0, 0, 0), 5, 0), ((36, .getfield 52, 3, 0, 28, 20, 57), 50, 0), ((39, .iload_n 2, 1, 0, 0, 0, 0), 1, 2), ((40, .iaload, 1, 0, 0, 0, 0), 52, 0), ((41, .iconst 1, 1, 1, 0, 0, 0), 12, 0), ((42, .isub, 1, 0, 0, 0, 0), 17, 0), ((43, .ireturn, 1, 0, 0, 0, 0), 1000, 0)]])
def al_mX12_know : ev_MeK := (al_yX12_know, prog_14_method_45_code, 3, none, [[((0, .aload_n 0, 1, 0, 0, 0, 0), 5, 0), ((1, .getfield 98, 3, 0, 48, 20, 73), 50, 0), ((4, .aload_n 0, 1, 0, 0, 0, 0), 5, 0), ((5, .getfield 666, 3, 0, 50, 0, 263), 50, 0), ((8, .iload_n 1, 1, 0, 0, 0, 0), 1, 1), ((9, .iastore, 1, 0, 0, 0, 0), 53, 0), ((10, .aload_n 0, 1, 0, 0, 0, 0), 5, 0), ((11, .getfield 101, 3, 0, 49, 20, 74), 50, 0), ((14, .aload_n 0, 1, 0, 0, 0, 0), 5, 0), ((15, .getfield 666, 3, 0, 50, 0, 263), 50, 0)],
  [((18, .iload_n 2, 1, 0, 0, 0, 0), 1, 2), ((19, .iastore, 1, 0, 0, 0, 0), 53, 0), ((20, .aload_n 0, 1, 0, 0, 0, 0), 5, 0), ((21, .dup, 1, 0, 0, 0, 0), 35, 0), ((22, .getfield 666, 3, 0, 50, 0, 263), 50, 0), ((25, .iconst 1, 1, 1, 0, 0, 0), 12, 0), ((26, .iadd, 1, 0, 0, 0, 0), 16, 0), ((27, .putfield 666, 3, 0, 50, 0, 263), 51, 0), ((30, .return_, 1, 0, 0, 0, 0), 1000, 0)]])
def al_mX12_captured : ev_MeK := (al_yX12_captured, prog_14_method_46_code, 7, (some .int), [[((0, .aload_n 0, 1, 0, 0, 0, 0), 5, 0), ((1, .getfield 107, 3, 0, 52, 20, 76), 50, 0), ((4, .iload_n 1, 1, 0, 0, 0, 0), 1, 1), ((5, .iaload, 1, 0, 0, 0, 0), 52, 0), ((6, .istore 5, 2, 0, 0, 0, 0), 6, 5), ((8, .iconst 0, 1, 0, 0, 0, 0), 12, 0), ((9, .istore 6, 2, 0, 0, 0, 0), 6, 6), ((11, .iload 6, 2, 0, 0, 0, 0), 0, 6), ((13, .aload_n 0, 1, 0, 0, 0, 0), 5, 0), ((14, .getfield 55, 3, 0, 29, 20, 58), 50, 0)],
  [((17, .iload 5, 2, 0, 0, 0, 0), 0, 5), ((19, .iaload, 1, 0, 0, 0, 0), 52, 0), ((20, .if_icmp .ge 46, 3, 66, 0, 0, 0), 47, 0), ((23, .aload_n 0, 1, 0, 0, 0, 0), 5, 0), ((24, .getfield 65, 3, 0, 32, 20, 62), 50, 0), ((27, .bipush 30, 2, 30, 0, 0, 0), 13, 0), ((29, .iload 5, 2, 0, 0, 0, 0), 0, 5), ((31, .imul, 1, 0, 0, 0, 0), 18, 0)],
  [((32, .iload 6, 2, 0, 0, 0, 0), 0, 6), ((34, .iadd, 1, 0, 0, 0, 0), 16, 0), ((35, .baload, 1, 0, 0, 0, 0), 54, 0), ((36, .iload_n 2, 1, 0, 0, 0, 0), 1, 2), ((37, .if_icmp .ne 23, 3, 60, 0, 0, 0), 45, 0), ((40, .aload_n 0, 1, 0, 0, 0, 0), 5, 0), ((41, .getfield 68, 3, 0, 33, 20, 63), 50, 0), ((44, .bipush 30, 2, 30, 0, 0, 0), 13, 0), ((46, .iload 5, 2, 0, 0, 0, 0), 0, 5)],
  [((48, .imul, 1, 0, 0, 0, 0), 18, 0), ((49, .iload 6, 2, 0, 0, 0, 0), 0, 6), ((51, .iadd, 1, 0, 0, 0, 0), 16, 0), ((52, .iaload, 1, 0, 0, 0, 0), 52, 0), ((53, .iload_n 3, 1, 0, 0, 0, 0), 1, 3), ((54, .if_icmp .ne 6, 3, 60, 0, 0, 0), 45, 0), ((57, .iload 6, 2, 0, 0, 0, 0), 0, 6), ((59, .ireturn, 1, 0, 0, 0, 0), 1000, 0), ((60, .iinc 6 1, 3, 1, 0, 0, 0), 36, 6), ((63, .goto (-52), 3, 11, 0, 0, 0), 37, 0)],
  [((66, .aload_n 0, 1, 0, 0, 0, 0), 5, 0), ((67, .getfield 55, 3, 0, 29, 20, 58), 50, 0), ((70, .iload 5, 2, 0, 0, 0, 0), 0, 5), ((72, .iaload, 1, 0, 0, 0, 0), 52, 0), ((73, .bipush 30, 2, 30, 0, 0, 0), 13, 0), ((75, .if_icmp .ne 13, 3, 88, 0, 0, 0), 45, 0), ((78, .aload_n 0, 1, 0, 0, 0, 0), 5, 0), ((79, .iconst 3, 1, 3, 0, 0, 0), 12, 0)],
  [((80, .iload 4, 2, 0, 0, 0, 0), 0, 4), ((82, .invokevirtual 631, 3, 209, 3, 0, 802), 56, 0), ((85, .pop, 1, 0, 0, 0, 0), 58, 0), ((86, .iconst 0, 1, 0, 0, 0, 0), 12, 0), ((87, .ireturn, 1, 0, 0, 0, 0), 1000, 0), ((88, .aload_n 0, 1, 0, 0, 0, 0), 5, 0), ((89, .getfield 65, 3, 0, 32, 20, 62), 50, 0), ((92, .bipush 30, 2, 30, 0, 0, 0), 13, 0), ((94, .iload 5, 2, 0, 0, 0, 0), 0, 5)],
  [((96, .imul, 1, 0, 0, 0, 0), 18, 0), ((97, .aload_n 0, 1, 0, 0, 0, 0), 5, 0), ((98, .getfield 55, 3, 0, 29, 20, 58), 50, 0), ((101, .iload 5, 2, 0, 0, 0, 0), 0, 5), ((103, .iaload, 1, 0, 0, 0, 0), 52, 0), ((104, .iadd, 1, 0, 0, 0, 0), 16, 0), ((105, .iload_n 2, 1, 0, 0, 0, 0), 1, 2), ((106, .bastore, 1, 0, 0, 0, 0), 55, 0), ((107, .aload_n 0, 1, 0, 0, 0, 0), 5, 0), ((108, .getfield 68, 3, 0, 33, 20, 63), 50, 0), ((111, .bipush 30, 2, 30, 0, 0, 0), 13, 0)],
  [((113, .iload 5, 2, 0, 0, 0, 0), 0, 5), ((115, .imul, 1, 0, 0, 0, 0), 18, 0), ((116, .aload_n 0, 1, 0, 0, 0, 0), 5, 0), ((117, .getfield 55, 3, 0, 29, 20, 58), 50, 0), ((120, .iload 5, 2, 0, 0, 0, 0), 0, 5), ((122, .iaload, 1, 0, 0, 0, 0), 52, 0), ((123, .iadd, 1, 0, 0, 0, 0), 16, 0), ((124, .iload_n 3, 1, 0, 0, 0, 0), 1, 3), ((125, .iastore, 1, 0, 0, 0, 0), 53, 0), ((126, .aload_n 0, 1, 0, 0, 0, 0), 5, 0), ((127, .getfield 55, 3, 0, 29, 20, 58), 50, 0)],
  [((130, .iload 5, 2, 0, 0, 0, 0), 0, 5), ((132, .dup2, 1, 0, 0, 0, 0), 58, 0), ((133, .iaload, 1, 0, 0, 0, 0), 52, 0), ((134, .iconst 1, 1, 1, 0, 0, 0), 12, 0), ((135, .iadd, 1, 0, 0, 0, 0), 16, 0), ((136, .iastore, 1, 0, 0, 0, 0), 53, 0), ((137, .aload_n 0, 1, 0, 0, 0, 0), 5, 0), ((138, .getfield 55, 3, 0, 29, 20, 58), 50, 0), ((141, .iload 5, 2, 0, 0, 0, 0), 0, 5), ((143, .iaload, 1, 0, 0, 0, 0), 52, 0)],
  [((144, .iconst 1, 1, 1, 0, 0, 0), 12, 0), ((145, .isub, 1, 0, 0, 0, 0), 17, 0), ((146, .ireturn, 1, 0, 0, 0, 0), 1000, 0)]])
def al_mX12_resolve : ev_MeK := (al_yX12_resolve, prog_14_method_47_code, 9, none, [[((0, .aload_n 0, 1, 0, 0, 0, 0), 5, 0), ((1, .aload_n 0, 1, 0, 0, 0, 0), 5, 0), ((2, .iload_n 2, 1, 0, 0, 0, 0), 1, 2), ((3, .invokevirtual 648, 3, 196, 2, 0, 241), 56, 0), ((6, .putfield 669, 3, 0, 63, 0, 804), 51, 0), ((9, .aload_n 0, 1, 0, 0, 0, 0), 5, 0), ((10, .getfield 660, 3, 0, 53, 0, 264), 50, 0), ((13, .istore_n 3, 1, 0, 0, 0, 0), 7, 3), ((14, .iload_n 3, 1, 0, 0, 0, 0), 1, 3), ((15, .ifCond .lt 140, 3, 155, 0, 0, 0), 40, 0)],
  [((18, .iload_n 3, 1, 0, 0, 0, 0), 1, 3), ((19, .aload_n 0, 1, 0, 0, 0, 0), 5, 0), ((20, .getfield 660, 3, 0, 53, 0, 264), 50, 0), ((23, .if_icmp .ne 10, 3, 33, 0, 0, 0), 45, 0), ((26, .aload_n 0, 1, 0, 0, 0, 0), 5, 0), ((27, .getfield 666, 3, 0, 50, 0, 263), 50, 0), ((30, .goto 11, 3, 41, 0, 0, 0), 37, 0)],
  [((33, .aload_n 0, 1, 0, 0, 0, 0), 5, 0), ((34, .getfield 104, 3, 0, 51, 20, 75), 50, 0), ((37, .iload_n 3, 1, 0, 0, 0, 0), 1, 3), ((38, .iconst 1, 1, 1, 0, 0, 0), 12, 0), ((39, .iadd, 1, 0, 0, 0, 0), 16, 0), ((40, .iaload, 1, 0, 0, 0, 0), 52, 0), ((41, .istore 4, 2, 0, 0, 0, 0), 6, 4), ((43, .iload 4, 2, 0, 0, 0, 0), 0, 4), ((45, .iconst 1, 1, 1, 0, 0, 0), 12, 0), ((46, .isub, 1, 0, 0, 0, 0), 17, 0), ((47, .istore 5, 2, 0, 0, 0, 0), 6, 5)],
  [((49, .iload 5, 2, 0, 0, 0, 0), 0, 5), ((51, .aload_n 0, 1, 0, 0, 0, 0), 5, 0), ((52, .getfield 104, 3, 0, 51, 20, 75), 50, 0), ((55, .iload_n 3, 1, 0, 0, 0, 0), 1, 3), ((56, .iaload, 1, 0, 0, 0, 0), 52, 0), ((57, .if_icmp .lt 92, 3, 149, 0, 0, 0), 46, 0), ((60, .aload_n 0, 1, 0, 0, 0, 0), 5, 0), ((61, .getfield 98, 3, 0, 48, 20, 73), 50, 0)],
  [((64, .iload 5, 2, 0, 0, 0, 0), 0, 5), ((66, .iaload, 1, 0, 0, 0, 0), 52, 0), ((67, .iload_n 1, 1, 0, 0, 0, 0), 1, 1), ((68, .if_icmp .ne 75, 3, 143, 0, 0, 0), 45, 0), ((71, .aload_n 0, 1, 0, 0, 0, 0), 5, 0), ((72, .getfield 101, 3, 0, 49, 20, 74), 50, 0), ((75, .iload 5, 2, 0, 0, 0, 0), 0, 5), ((77, .iaload, 1, 0, 0, 0, 0), 52, 0), ((78, .istore 6, 2, 0, 0, 0, 0), 6, 6)],
  [((80, .iconst 1, 1, 1, 0, 0, 0), 12, 0), ((81, .istore 7, 2, 0, 0, 0, 0), 6, 7), ((83, .iload_n 3, 1, 0, 0, 0, 0), 1, 3), ((84, .iconst 1, 1, 1, 0, 0, 0), 12, 0), ((85, .iadd, 1, 0, 0, 0, 0), 16, 0), ((86, .istore 8, 2, 0, 0, 0, 0), 6, 8), ((88, .iload 8, 2, 0, 0, 0, 0), 0, 8), ((90, .aload_n 0, 1, 0, 0, 0, 0), 5, 0), ((91, .getfield 660, 3, 0, 53, 0, 264), 50, 0), ((94, .if_icmp .gt 25, 3, 119, 0, 0, 0), 48, 0)],
  [((97, .aload_n 0, 1, 0, 0, 0, 0), 5, 0), ((98, .iload 8, 2, 0, 0, 0, 0), 0, 8), ((100, .iload 7, 2, 0, 0, 0, 0), 0, 7), ((102, .iload 6, 2, 0, 0, 0, 0), 0, 6), ((104, .iload_n 2, 1, 0, 0, 0, 0), 1, 2), ((105, .invokevirtual 672, 3, 221, 5, 0, 805), 56, 0), ((108, .istore 6, 2, 0, 0, 0, 0), 6, 6), ((110, .iconst 0, 1, 0, 0, 0, 0), 12, 0), ((111, .istore 7, 2, 0, 0, 0, 0), 6, 7)],
  [((113, .iinc 8 1, 3, 1, 0, 0, 0), 36, 8), ((116, .goto (-28), 3, 88, 0, 0, 0), 37, 0), ((119, .aload_n 0, 1, 0, 0, 0, 0), 5, 0), ((120, .iload_n 3, 1, 0, 0, 0, 0), 1, 3), ((121, .aload_n 0, 1, 0, 0, 0, 0), 5, 0), ((122, .getfield 660, 3, 0, 53, 0, 264), 50, 0), ((125, .if_icmp .ne 7, 3, 132, 0, 0, 0), 45, 0)],
  [((128, .iconst 0, 1, 0, 0, 0, 0), 12, 0), ((129, .goto 4, 3, 133, 0, 0, 0), 37, 0), ((132, .iconst 1, 1, 1, 0, 0, 0), 12, 0), ((133, .putfield 676, 3, 0, 61, 0, 806), 51, 0), ((136, .aload_n 0, 1, 0, 0, 0, 0), 5, 0), ((137, .iload 6, 2, 0, 0, 0, 0), 0, 6), ((139, .putfield 679, 3, 0, 62, 0, 807), 51, 0), ((142, .return_, 1, 0, 0, 0, 0), 1000, 0), ((143, .iinc 5 (-1), 3, 4294967295, 0, 0, 0), 36, 5)],
  [((146, .goto (-97), 3, 49, 0, 0, 0), 37, 0), ((149, .iinc 3 (-1), 3, 4294967295, 0, 0, 0), 36, 3), ((152, .goto (-138), 3, 14, 0, 0, 0), 37, 0), ((155, .aload_n 0, 1, 0, 0, 0, 0), 5, 0), ((156, .iconst 2, 1, 2, 0, 0, 0), 12, 0), ((157, .putfield 676, 3, 0, 61, 0, 806), 51, 0)],
  [((160, .aload_n 0, 1, 0, 0, 0, 0), 5, 0), ((161, .iload_n 1, 1, 0, 0, 0, 0), 1, 1), ((162, .putfield 679, 3, 0, 62, 0, 807), 51, 0), ((165, .return_, 1, 0, 0, 0, 0), 1000, 0)]])
def al_mX12_discharge : ev_MeK := (al_yX12_discharge, prog_14_method_48_code, 2, none, [[((0, .iconst 0, 1, 0, 0, 0, 0), 12, 0), ((1, .istore_n 1, 1, 0, 0, 0, 0), 7, 1), ((2, .aload_n 0, 1, 0, 0, 0, 0), 5, 0), ((3, .getfield 676, 3, 0, 61, 0, 806), 50, 0), ((6, .iconst 2, 1, 2, 0, 0, 0), 12, 0), ((7, .if_icmp .gt 27, 3, 34, 0, 0, 0), 48, 0), ((10, .aload_n 0, 1, 0, 0, 0, 0), 5, 0), ((11, .bipush 6, 2, 6, 0, 0, 0), 13, 0), ((13, .aload_n 0, 1, 0, 0, 0, 0), 5, 0), ((14, .getfield 676, 3, 0, 61, 0, 806), 50, 0)],
  [((17, .iadd, 1, 0, 0, 0, 0), 16, 0), ((18, .aload_n 0, 1, 0, 0, 0, 0), 5, 0), ((19, .getfield 679, 3, 0, 62, 0, 807), 50, 0), ((22, .iconst 0, 1, 0, 0, 0, 0), 12, 0), ((23, .aload_n 0, 1, 0, 0, 0, 0), 5, 0), ((24, .getfield 669, 3, 0, 63, 0, 804), 50, 0), ((27, .invokevirtual 682, 3, 30, 5, 0, 269), 56, 0), ((30, .istore_n 1, 1, 0, 0, 0, 0), 7, 1), ((31, .goto 24, 3, 55, 0, 0, 0), 37, 0)],
  [((34, .aload_n 0, 1, 0, 0, 0, 0), 5, 0), ((35, .getfield 676, 3, 0, 61, 0, 806), 50, 0), ((38, .iconst 3, 1, 3, 0, 0, 0), 12, 0), ((39, .if_icmp .ne 16, 3, 55, 0, 0, 0), 45, 0), ((42, .aload_n 0, 1, 0, 0, 0, 0), 5, 0), ((43, .bipush 12, 2, 12, 0, 0, 0), 13, 0), ((45, .iconst 0, 1, 0, 0, 0, 0), 12, 0), ((46, .iconst 0, 1, 0, 0, 0, 0), 12, 0), ((47, .aload_n 0, 1, 0, 0, 0, 0), 5, 0)],
  [((48, .getfield 669, 3, 0, 63, 0, 804), 50, 0), ((51, .invokevirtual 682, 3, 30, 5, 0, 269), 56, 0), ((54, .istore_n 1, 1, 0, 0, 0, 0), 7, 1), ((55, .return_, 1, 0, 0, 0, 0), 1000, 0)]])
def al_mX12_block : ev_MeK := (al_yX12_block, prog_14_method_49_code, 1, none, [[((0, .aload_n 0, 1, 0, 0, 0, 0), 5, 0), ((1, .iconst 2, 1, 2, 0, 0, 0), 12, 0), ((2, .aload_n 0, 1, 0, 0, 0, 0), 5, 0), ((3, .getfield 666, 3, 0, 50, 0, 263), 50, 0), ((6, .iconst 0, 1, 0, 0, 0, 0), 12, 0), ((7, .iconst 0, 1, 0, 0, 0, 0), 12, 0), ((8, .invokevirtual 686, 3, 31, 5, 0, 270), 56, 0), ((11, .aload_n 0, 1, 0, 0, 0, 0), 5, 0), ((12, .iconst 0, 1, 0, 0, 0, 0), 12, 0), ((13, .iconst 0, 1, 0, 0, 0, 0), 12, 0), ((14, .iconst 0, 1, 0, 0, 0, 0), 12, 0), ((15, .iconst 0, 1, 0, 0, 0, 0), 12, 0)],
  [((16, .invokevirtual 686, 3, 31, 5, 0, 270), 56, 0), ((19, .return_, 1, 0, 0, 0, 0), 1000, 0)]])
def al_mX12_endScope : ev_MeK := (al_yX12_endScope, prog_14_method_50_code, 3, none, [[((0, .aload_n 0, 1, 0, 0, 0, 0), 5, 0), ((1, .getfield 666, 3, 0, 50, 0, 263), 50, 0), ((4, .iload_n 1, 1, 0, 0, 0, 0), 1, 1), ((5, .if_icmp .le 23, 3, 28, 0, 0, 0), 49, 0), ((8, .aload_n 0, 1, 0, 0, 0, 0), 5, 0), ((9, .bipush 20, 2, 20, 0, 0, 0), 13, 0), ((11, .aload_n 0, 1, 0, 0, 0, 0), 5, 0), ((12, .getfield 101, 3, 0, 49, 20, 74), 50, 0), ((15, .iload_n 1, 1, 0, 0, 0, 0), 1, 1)],
  [((16, .iaload, 1, 0, 0, 0, 0), 52, 0), ((17, .iconst 0, 1, 0, 0, 0, 0), 12, 0), ((18, .iconst 0, 1, 0, 0, 0, 0), 12, 0), ((19, .invokevirtual 682, 3, 30, 5, 0, 269), 56, 0), ((22, .istore_n 2, 1, 0, 0, 0, 0), 7, 2), ((23, .aload_n 0, 1, 0, 0, 0, 0), 5, 0), ((24, .iload_n 1, 1, 0, 0, 0, 0), 1, 1), ((25, .putfield 666, 3, 0, 50, 0, 263), 51, 0), ((28, .return_, 1, 0, 0, 0, 0), 1000, 0)]])
def al_mX12_statement : ev_MeK := (al_yX12_statement, prog_14_method_52_code, 6, (some .boolean), [[((0, .aload_n 0, 1, 0, 0, 0, 0), 5, 0), ((1, .bipush 59, 2, 59, 0, 0, 0), 13, 0), ((3, .invokevirtual 635, 3, 36, 2, 0, 299), 56, 0), ((6, .ifCond .eq 8, 3, 14, 0, 0, 0), 38, 0), ((9, .aload_n 0, 1, 0, 0, 0, 0), 5, 0), ((10, .invokevirtual 638, 3, 212, 1, 0, 294), 56, 0), ((13, .ireturn, 1, 0, 0, 0, 0), 1000, 0), ((14, .aload_n 0, 1, 0, 0, 0, 0), 5, 0), ((15, .invokevirtual 690, 3, 215, 1, 0, 293), 56, 0)],
  [((18, .istore_n 1, 1, 0, 0, 0, 0), 7, 1), ((19, .aload_n 0, 1, 0, 0, 0, 0), 5, 0), ((20, .iconst 0, 1, 0, 0, 0, 0), 12, 0), ((21, .iconst 0, 1, 0, 0, 0, 0), 12, 0), ((22, .iconst 0, 1, 0, 0, 0, 0), 12, 0), ((23, .iconst 0, 1, 0, 0, 0, 0), 12, 0), ((24, .invokevirtual 682, 3, 30, 5, 0, 269), 56, 0), ((27, .istore_n 2, 1, 0, 0, 0, 0), 7, 2), ((28, .aload_n 0, 1, 0, 0, 0, 0), 5, 0), ((29, .getfield 36, 3, 0, 21, 20, 51), 50, 0)],
  [((32, .aload_n 0, 1, 0, 0, 0, 0), 5, 0), ((33, .getfield 624, 3, 0, 25, 0, 260), 50, 0), ((36, .iaload, 1, 0, 0, 0, 0), 52, 0), ((37, .iconst 4, 1, 4, 0, 0, 0), 12, 0), ((38, .if_icmp .eq 36, 3, 74, 0, 0, 0), 44, 0), ((41, .aload_n 0, 1, 0, 0, 0, 0), 5, 0), ((42, .bipush 14, 2, 14, 0, 0, 0), 13, 0), ((44, .iconst 0, 1, 0, 0, 0, 0), 12, 0), ((45, .iconst 0, 1, 0, 0, 0, 0), 12, 0), ((46, .iconst 0, 1, 0, 0, 0, 0), 12, 0), ((47, .invokevirtual 682, 3, 30, 5, 0, 269), 56, 0)],
  [((50, .istore_n 2, 1, 0, 0, 0, 0), 7, 2), ((51, .aload_n 0, 1, 0, 0, 0, 0), 5, 0), ((52, .bipush 21, 2, 21, 0, 0, 0), 13, 0), ((54, .aload_n 0, 1, 0, 0, 0, 0), 5, 0), ((55, .getfield 705, 3, 0, 60, 0, 266), 50, 0), ((58, .iconst 0, 1, 0, 0, 0, 0), 12, 0), ((59, .iconst 0, 1, 0, 0, 0, 0), 12, 0), ((60, .invokevirtual 686, 3, 31, 5, 0, 270), 56, 0), ((63, .aload_n 0, 1, 0, 0, 0, 0), 5, 0)],
  [((64, .bipush 7, 2, 7, 0, 0, 0), 13, 0), ((66, .iconst 0, 1, 0, 0, 0, 0), 12, 0), ((67, .iconst 0, 1, 0, 0, 0, 0), 12, 0), ((68, .iconst 0, 1, 0, 0, 0, 0), 12, 0), ((69, .invokevirtual 686, 3, 31, 5, 0, 270), 56, 0), ((72, .iconst 1, 1, 1, 0, 0, 0), 12, 0), ((73, .ireturn, 1, 0, 0, 0, 0), 1000, 0), ((74, .aload_n 0, 1, 0, 0, 0, 0), 5, 0), ((75, .getfield 42, 3, 0, 23, 20, 54), 50, 0), ((78, .aload_n 0, 1, 0, 0, 0, 0), 5, 0), ((79, .getfield 624, 3, 0, 25, 0, 260), 50, 0)],
  [((82, .laload, 1, 0, 0, 0, 0), 58, 0), ((83, .l2i, 1, 0, 0, 0, 0), 33, 0), ((84, .istore_n 3, 1, 0, 0, 0, 0), 7, 3), ((85, .aload_n 0, 1, 0, 0, 0, 0), 5, 0), ((86, .invokevirtual 627, 3, 210, 1, 0, 801), 56, 0), ((89, .istore 4, 2, 0, 0, 0, 0), 6, 4), ((91, .aload_n 0, 1, 0, 0, 0, 0), 5, 0), ((92, .invokevirtual 638, 3, 212, 1, 0, 294), 56, 0), ((95, .ifCond .ne 5, 3, 100, 0, 0, 0), 39, 0)],
  [((98, .iconst 0, 1, 0, 0, 0, 0), 12, 0), ((99, .ireturn, 1, 0, 0, 0, 0), 1000, 0), ((100, .iload_n 3, 1, 0, 0, 0, 0), 1, 3), ((101, .tableswitch 208 3 21 #[91, 208, 208, 208, 208, 192, 198, 173, 208, 203, 208, 208, 208, 136, 208, 208, 208, 208, 106], 91, 0, 0, 0, 0), 58, 0)],
  [],
  [],
  [],
  [],
  [],
  [((192, .aload_n 0, 1, 0, 0, 0, 0), 5, 0), ((193, .bipush 30, 2, 30, 0, 0, 0), 13, 0), ((195, .iconst 0, 1, 0, 0, 0, 0), 12, 0), ((196, .iconst 0, 1, 0, 0, 0, 0), 12, 0), ((197, .iconst 0, 1, 0, 0, 0, 0), 12, 0), ((198, .invokevirtual 686, 3, 31, 5, 0, 270), 56, 0), ((201, .aload_n 0, 1, 0, 0, 0, 0), 5, 0), ((202, .invokevirtual 708, 3, 224, 1, 0, 808), 56, 0), ((205, .iconst 1, 1, 1, 0, 0, 0), 12, 0), ((206, .ireturn, 1, 0, 0, 0, 0), 1000, 0), ((207, .aload_n 0, 1, 0, 0, 0, 0), 5, 0)],
  [((208, .iconst 0, 1, 0, 0, 0, 0), 12, 0), ((209, .iconst 0, 1, 0, 0, 0, 0), 12, 0), ((210, .iconst 0, 1, 0, 0, 0, 0), 12, 0), ((211, .iconst 0, 1, 0, 0, 0, 0), 12, 0), ((212, .invokevirtual 682, 3, 30, 5, 0, 269), 56, 0), ((215, .istore 5, 2, 0, 0, 0, 0), 6, 5), ((217, .aload_n 0, 1, 0, 0, 0, 0), 5, 0), ((218, .bipush 26, 2, 26, 0, 0, 0), 13, 0), ((220, .iload 5, 2, 0, 0, 0, 0), 0, 5), ((222, .iconst 0, 1, 0, 0, 0, 0), 12, 0), ((223, .iconst 0, 1, 0, 0, 0, 0), 12, 0)],
  [((224, .invokevirtual 686, 3, 31, 5, 0, 270), 56, 0), ((227, .aload_n 0, 1, 0, 0, 0, 0), 5, 0), ((228, .iconst 3, 1, 3, 0, 0, 0), 12, 0), ((229, .iconst 0, 1, 0, 0, 0, 0), 12, 0), ((230, .iconst 0, 1, 0, 0, 0, 0), 12, 0), ((231, .iconst 0, 1, 0, 0, 0, 0), 12, 0), ((232, .invokevirtual 686, 3, 31, 5, 0, 270), 56, 0), ((235, .iconst 1, 1, 1, 0, 0, 0), 12, 0), ((236, .ireturn, 1, 0, 0, 0, 0), 1000, 0), ((237, .aload_n 0, 1, 0, 0, 0, 0), 5, 0), ((238, .invokevirtual 711, 3, 227, 1, 0, 809), 56, 0)],
  [((241, .aload_n 0, 1, 0, 0, 0, 0), 5, 0), ((242, .bipush 28, 2, 28, 0, 0, 0), 13, 0), ((244, .aload_n 0, 1, 0, 0, 0, 0), 5, 0), ((245, .getfield 651, 3, 0, 41, 0, 267), 50, 0), ((248, .aload_n 0, 1, 0, 0, 0, 0), 5, 0), ((249, .getfield 666, 3, 0, 50, 0, 263), 50, 0), ((252, .aload_n 0, 1, 0, 0, 0, 0), 5, 0), ((253, .getfield 52, 3, 0, 28, 20, 57), 50, 0)],
  [((256, .aload_n 0, 1, 0, 0, 0, 0), 5, 0), ((257, .invokevirtual 663, 3, 218, 1, 0, 803), 56, 0), ((260, .iaload, 1, 0, 0, 0, 0), 52, 0), ((261, .invokevirtual 686, 3, 31, 5, 0, 270), 56, 0), ((264, .aload_n 0, 1, 0, 0, 0, 0), 5, 0), ((265, .iconst 0, 1, 0, 0, 0, 0), 12, 0), ((266, .iconst 0, 1, 0, 0, 0, 0), 12, 0), ((267, .iconst 0, 1, 0, 0, 0, 0), 12, 0), ((268, .iconst 0, 1, 0, 0, 0, 0), 12, 0), ((269, .invokevirtual 686, 3, 31, 5, 0, 270), 56, 0)],
  [((272, .iconst 1, 1, 1, 0, 0, 0), 12, 0), ((273, .ireturn, 1, 0, 0, 0, 0), 1000, 0), ((274, .aload_n 0, 1, 0, 0, 0, 0), 5, 0), ((275, .bipush 23, 2, 23, 0, 0, 0), 13, 0), ((277, .iconst (-1), 1, 4294967295, 0, 0, 0), 12, 0), ((278, .iconst 0, 1, 0, 0, 0, 0), 12, 0), ((279, .iconst 0, 1, 0, 0, 0, 0), 12, 0), ((280, .invokevirtual 686, 3, 31, 5, 0, 270), 56, 0), ((283, .aload_n 0, 1, 0, 0, 0, 0), 5, 0), ((284, .iconst 3, 1, 3, 0, 0, 0), 12, 0), ((285, .iconst 0, 1, 0, 0, 0, 0), 12, 0), ((286, .iconst 0, 1, 0, 0, 0, 0), 12, 0), ((287, .iconst 0, 1, 0, 0, 0, 0), 12, 0)],
  [((288, .invokevirtual 686, 3, 31, 5, 0, 270), 56, 0), ((291, .iconst 1, 1, 1, 0, 0, 0), 12, 0), ((292, .ireturn, 1, 0, 0, 0, 0), 1000, 0), ((293, .aload_n 0, 1, 0, 0, 0, 0), 5, 0), ((294, .iload_n 1, 1, 0, 0, 0, 0), 1, 1), ((295, .invokevirtual 714, 3, 233, 2, 0, 810), 56, 0), ((298, .ireturn, 1, 0, 0, 0, 0), 1000, 0), ((299, .aload_n 0, 1, 0, 0, 0, 0), 5, 0), ((300, .invokevirtual 717, 3, 232, 1, 0, 811), 56, 0), ((303, .ireturn, 1, 0, 0, 0, 0), 1000, 0)],
  [((304, .aload_n 0, 1, 0, 0, 0, 0), 5, 0), ((305, .invokevirtual 720, 3, 230, 1, 0, 812), 56, 0), ((308, .ireturn, 1, 0, 0, 0, 0), 1000, 0), ((309, .aload_n 0, 1, 0, 0, 0, 0), 5, 0), ((310, .iload 4, 2, 0, 0, 0, 0), 0, 4), ((312, .invokevirtual 723, 3, 229, 2, 0, 813), 56, 0), ((315, .ireturn, 1, 0, 0, 0, 0), 1000, 0)]])
def al_mX12_openLoop : ev_MeK := (al_yX12_openLoop, prog_14_method_53_code, 1, none, [[((0, .aload_n 0, 1, 0, 0, 0, 0), 5, 0), ((1, .getfield 110, 3, 0, 54, 20, 77), 50, 0), ((4, .aload_n 0, 1, 0, 0, 0, 0), 5, 0), ((5, .getfield 726, 3, 0, 56, 0, 265), 50, 0), ((8, .iconst (-1), 1, 4294967295, 0, 0, 0), 12, 0), ((9, .iastore, 1, 0, 0, 0, 0), 53, 0), ((10, .aload_n 0, 1, 0, 0, 0, 0), 5, 0), ((11, .getfield 113, 3, 0, 55, 20, 78), 50, 0), ((14, .aload_n 0, 1, 0, 0, 0, 0), 5, 0), ((15, .getfield 726, 3, 0, 56, 0, 265), 50, 0)],
  [((18, .aload_n 0, 1, 0, 0, 0, 0), 5, 0), ((19, .getfield 660, 3, 0, 53, 0, 264), 50, 0), ((22, .iastore, 1, 0, 0, 0, 0), 53, 0), ((23, .aload_n 0, 1, 0, 0, 0, 0), 5, 0), ((24, .dup, 1, 0, 0, 0, 0), 35, 0), ((25, .getfield 726, 3, 0, 56, 0, 265), 50, 0), ((28, .iconst 1, 1, 1, 0, 0, 0), 12, 0), ((29, .iadd, 1, 0, 0, 0, 0), 16, 0), ((30, .putfield 726, 3, 0, 56, 0, 265), 51, 0)],
  [((33, .return_, 1, 0, 0, 0, 0), 1000, 0)]])
def al_mX12_closeLoop : ev_MeK := (al_yX12_closeLoop, prog_14_method_54_code, 4, none, [[((0, .aload_n 0, 1, 0, 0, 0, 0), 5, 0), ((1, .dup, 1, 0, 0, 0, 0), 35, 0), ((2, .getfield 726, 3, 0, 56, 0, 265), 50, 0), ((5, .iconst 1, 1, 1, 0, 0, 0), 12, 0), ((6, .isub, 1, 0, 0, 0, 0), 17, 0), ((7, .putfield 726, 3, 0, 56, 0, 265), 51, 0), ((10, .aload_n 0, 1, 0, 0, 0, 0), 5, 0), ((11, .getfield 110, 3, 0, 54, 20, 77), 50, 0), ((14, .aload_n 0, 1, 0, 0, 0, 0), 5, 0), ((15, .getfield 726, 3, 0, 56, 0, 265), 50, 0)],
  [((18, .iaload, 1, 0, 0, 0, 0), 52, 0), ((19, .istore_n 2, 1, 0, 0, 0, 0), 7, 2), ((20, .iload_n 2, 1, 0, 0, 0, 0), 1, 2), ((21, .ifCond .lt 25, 3, 46, 0, 0, 0), 40, 0), ((24, .aload_n 0, 1, 0, 0, 0, 0), 5, 0), ((25, .getfield 74, 3, 0, 36, 20, 65), 50, 0), ((28, .iload_n 2, 1, 0, 0, 0, 0), 1, 2), ((29, .iaload, 1, 0, 0, 0, 0), 52, 0), ((30, .istore_n 3, 1, 0, 0, 0, 0), 7, 3), ((31, .aload_n 0, 1, 0, 0, 0, 0), 5, 0)],
  [((32, .getfield 74, 3, 0, 36, 20, 65), 50, 0), ((35, .iload_n 2, 1, 0, 0, 0, 0), 1, 2), ((36, .aload_n 0, 1, 0, 0, 0, 0), 5, 0), ((37, .getfield 651, 3, 0, 41, 0, 267), 50, 0), ((40, .iastore, 1, 0, 0, 0, 0), 53, 0), ((41, .iload_n 3, 1, 0, 0, 0, 0), 1, 3), ((42, .istore_n 2, 1, 0, 0, 0, 0), 7, 2), ((43, .goto (-23), 3, 20, 0, 0, 0), 37, 0), ((46, .aload_n 0, 1, 0, 0, 0, 0), 5, 0), ((47, .bipush 20, 2, 20, 0, 0, 0), 13, 0)],
  [((49, .iload_n 1, 1, 0, 0, 0, 0), 1, 1), ((50, .iconst 0, 1, 0, 0, 0, 0), 12, 0), ((51, .iconst 0, 1, 0, 0, 0, 0), 12, 0), ((52, .invokevirtual 682, 3, 30, 5, 0, 269), 56, 0), ((55, .istore_n 3, 1, 0, 0, 0, 0), 7, 3), ((56, .return_, 1, 0, 0, 0, 0), 1000, 0)]])
def al_mX12_readBreak : ev_MeK := (al_yX12_readBreak, prog_14_method_55_code, 2, (some .boolean), [[((0, .aload_n 0, 1, 0, 0, 0, 0), 5, 0), ((1, .getfield 726, 3, 0, 56, 0, 265), 50, 0), ((4, .ifCond .eq 21, 3, 25, 0, 0, 0), 38, 0), ((7, .aload_n 0, 1, 0, 0, 0, 0), 5, 0), ((8, .getfield 113, 3, 0, 55, 20, 78), 50, 0), ((11, .aload_n 0, 1, 0, 0, 0, 0), 5, 0), ((12, .getfield 726, 3, 0, 56, 0, 265), 50, 0), ((15, .iconst 1, 1, 1, 0, 0, 0), 12, 0)],
  [((16, .isub, 1, 0, 0, 0, 0), 17, 0), ((17, .iaload, 1, 0, 0, 0, 0), 52, 0), ((18, .aload_n 0, 1, 0, 0, 0, 0), 5, 0), ((19, .getfield 660, 3, 0, 53, 0, 264), 50, 0), ((22, .if_icmp .eq 10, 3, 32, 0, 0, 0), 44, 0), ((25, .aload_n 0, 1, 0, 0, 0, 0), 5, 0), ((26, .iconst 4, 1, 4, 0, 0, 0), 12, 0), ((27, .iload_n 1, 1, 0, 0, 0, 0), 1, 1), ((28, .invokevirtual 631, 3, 209, 3, 0, 802), 56, 0), ((31, .ireturn, 1, 0, 0, 0, 0), 1000, 0)],
  [((32, .aload_n 0, 1, 0, 0, 0, 0), 5, 0), ((33, .getfield 110, 3, 0, 54, 20, 77), 50, 0), ((36, .aload_n 0, 1, 0, 0, 0, 0), 5, 0), ((37, .getfield 726, 3, 0, 56, 0, 265), 50, 0), ((40, .iconst 1, 1, 1, 0, 0, 0), 12, 0), ((41, .isub, 1, 0, 0, 0, 0), 17, 0), ((42, .aload_n 0, 1, 0, 0, 0, 0), 5, 0), ((43, .bipush 21, 2, 21, 0, 0, 0), 13, 0), ((45, .aload_n 0, 1, 0, 0, 0, 0), 5, 0), ((46, .getfield 110, 3, 0, 54, 20, 77), 50, 0)],
  [((49, .aload_n 0, 1, 0, 0, 0, 0), 5, 0), ((50, .getfield 726, 3, 0, 56, 0, 265), 50, 0), ((53, .iconst 1, 1, 1, 0, 0, 0), 12, 0), ((54, .isub, 1, 0, 0, 0, 0), 17, 0), ((55, .iaload, 1, 0, 0, 0, 0), 52, 0), ((56, .iconst 0, 1, 0, 0, 0, 0), 12, 0), ((57, .iconst 0, 1, 0, 0, 0, 0), 12, 0), ((58, .invokevirtual 682, 3, 30, 5, 0, 269), 56, 0), ((61, .iastore, 1, 0, 0, 0, 0), 53, 0), ((62, .iconst 1, 1, 1, 0, 0, 0), 12, 0), ((63, .ireturn, 1, 0, 0, 0, 0), 1000, 0)]])
def al_mX12_readLocal : ev_MeK := (al_yX12_readLocal, prog_14_method_56_code, 7, (some .boolean), [[((0, .aload_n 0, 1, 0, 0, 0, 0), 5, 0), ((1, .bipush 9, 2, 9, 0, 0, 0), 13, 0), ((3, .invokevirtual 645, 3, 34, 2, 0, 292), 56, 0), ((6, .ifCond .eq 110, 3, 116, 0, 0, 0), 38, 0), ((9, .aload_n 0, 1, 0, 0, 0, 0), 5, 0), ((10, .invokevirtual 638, 3, 212, 1, 0, 294), 56, 0), ((13, .ifCond .eq 23, 3, 36, 0, 0, 0), 38, 0)],
  [((16, .aload_n 0, 1, 0, 0, 0, 0), 5, 0), ((17, .getfield 36, 3, 0, 21, 20, 51), 50, 0), ((20, .aload_n 0, 1, 0, 0, 0, 0), 5, 0), ((21, .getfield 624, 3, 0, 25, 0, 260), 50, 0), ((24, .iaload, 1, 0, 0, 0, 0), 52, 0), ((25, .iconst 1, 1, 1, 0, 0, 0), 12, 0), ((26, .if_icmp .eq 12, 3, 38, 0, 0, 0), 44, 0), ((29, .aload_n 0, 1, 0, 0, 0, 0), 5, 0), ((30, .invokevirtual 642, 3, 211, 1, 0, 319), 56, 0)],
  [((33, .ifCond .ne 5, 3, 38, 0, 0, 0), 39, 0), ((36, .iconst 0, 1, 0, 0, 0, 0), 12, 0), ((37, .ireturn, 1, 0, 0, 0, 0), 1000, 0), ((38, .aload_n 0, 1, 0, 0, 0, 0), 5, 0), ((39, .aload_n 0, 1, 0, 0, 0, 0), 5, 0), ((40, .invokevirtual 627, 3, 210, 1, 0, 801), 56, 0), ((43, .invokevirtual 729, 3, 219, 2, 0, 814), 56, 0), ((46, .istore_n 1, 1, 0, 0, 0, 0), 7, 1), ((47, .iload_n 1, 1, 0, 0, 0, 0), 1, 1)],
  [((48, .ifCond .ge 5, 3, 53, 0, 0, 0), 41, 0), ((51, .iconst 0, 1, 0, 0, 0, 0), 12, 0), ((52, .ireturn, 1, 0, 0, 0, 0), 1000, 0), ((53, .aload_n 0, 1, 0, 0, 0, 0), 5, 0), ((54, .aload_n 0, 1, 0, 0, 0, 0), 5, 0), ((55, .getfield 42, 3, 0, 23, 20, 54), 50, 0), ((58, .aload_n 0, 1, 0, 0, 0, 0), 5, 0), ((59, .getfield 624, 3, 0, 25, 0, 260), 50, 0), ((62, .laload, 1, 0, 0, 0, 0), 58, 0), ((63, .l2i, 1, 0, 0, 0, 0), 33, 0)],
  [((64, .iload_n 1, 1, 0, 0, 0, 0), 1, 1), ((65, .invokevirtual 732, 3, 220, 3, 0, 815), 56, 0), ((68, .aload_n 0, 1, 0, 0, 0, 0), 5, 0), ((69, .iconst 1, 1, 1, 0, 0, 0), 12, 0), ((70, .iconst 0, 1, 0, 0, 0, 0), 12, 0), ((71, .iconst 0, 1, 0, 0, 0, 0), 12, 0), ((72, .iconst 0, 1, 0, 0, 0, 0), 12, 0), ((73, .invokevirtual 682, 3, 30, 5, 0, 269), 56, 0), ((76, .istore_n 2, 1, 0, 0, 0, 0), 7, 2), ((77, .aload_n 0, 1, 0, 0, 0, 0), 5, 0), ((78, .bipush 19, 2, 19, 0, 0, 0), 13, 0)],
  [((80, .iload_n 1, 1, 0, 0, 0, 0), 1, 1), ((81, .iconst 0, 1, 0, 0, 0, 0), 12, 0), ((82, .iconst 0, 1, 0, 0, 0, 0), 12, 0), ((83, .invokevirtual 682, 3, 30, 5, 0, 269), 56, 0), ((86, .istore_n 2, 1, 0, 0, 0, 0), 7, 2), ((87, .aload_n 0, 1, 0, 0, 0, 0), 5, 0), ((88, .invokevirtual 638, 3, 212, 1, 0, 294), 56, 0), ((91, .ifCond .ne 5, 3, 96, 0, 0, 0), 39, 0), ((94, .iconst 0, 1, 0, 0, 0, 0), 12, 0), ((95, .ireturn, 1, 0, 0, 0, 0), 1000, 0)],
  [((96, .aload_n 0, 1, 0, 0, 0, 0), 5, 0), ((97, .bipush 40, 2, 40, 0, 0, 0), 13, 0), ((99, .iload_n 1, 1, 0, 0, 0, 0), 1, 1), ((100, .iconst 0, 1, 0, 0, 0, 0), 12, 0), ((101, .iconst 0, 1, 0, 0, 0, 0), 12, 0), ((102, .invokevirtual 686, 3, 31, 5, 0, 270), 56, 0), ((105, .aload_n 0, 1, 0, 0, 0, 0), 5, 0), ((106, .bipush 19, 2, 19, 0, 0, 0), 13, 0), ((108, .iconst 0, 1, 0, 0, 0, 0), 12, 0), ((109, .iconst 0, 1, 0, 0, 0, 0), 12, 0), ((110, .iconst 0, 1, 0, 0, 0, 0), 12, 0), ((111, .invokevirtual 686, 3, 31, 5, 0, 270), 56, 0)],
  [((114, .iconst 1, 1, 1, 0, 0, 0), 12, 0), ((115, .ireturn, 1, 0, 0, 0, 0), 1000, 0), ((116, .aload_n 0, 1, 0, 0, 0, 0), 5, 0), ((117, .getfield 624, 3, 0, 25, 0, 260), 50, 0), ((120, .istore_n 1, 1, 0, 0, 0, 0), 7, 1), ((121, .iconst 0, 1, 0, 0, 0, 0), 12, 0), ((122, .istore_n 2, 1, 0, 0, 0, 0), 7, 2), ((123, .aload_n 0, 1, 0, 0, 0, 0), 5, 0), ((124, .getfield 52, 3, 0, 28, 20, 57), 50, 0), ((127, .aload_n 0, 1, 0, 0, 0, 0), 5, 0)],
  [((128, .invokevirtual 663, 3, 218, 1, 0, 803), 56, 0), ((131, .iaload, 1, 0, 0, 0, 0), 52, 0), ((132, .istore_n 3, 1, 0, 0, 0, 0), 7, 3), ((133, .iconst 1, 1, 1, 0, 0, 0), 12, 0), ((134, .istore 4, 2, 0, 0, 0, 0), 6, 4), ((136, .iload 4, 2, 0, 0, 0, 0), 0, 4), ((138, .ifCond .eq 66, 3, 204, 0, 0, 0), 38, 0), ((141, .aload_n 0, 1, 0, 0, 0, 0), 5, 0), ((142, .getfield 36, 3, 0, 21, 20, 51), 50, 0)],
  [((145, .aload_n 0, 1, 0, 0, 0, 0), 5, 0), ((146, .getfield 624, 3, 0, 25, 0, 260), 50, 0), ((149, .iaload, 1, 0, 0, 0, 0), 52, 0), ((150, .iconst 1, 1, 1, 0, 0, 0), 12, 0), ((151, .if_icmp .eq 8, 3, 159, 0, 0, 0), 44, 0), ((154, .aload_n 0, 1, 0, 0, 0, 0), 5, 0), ((155, .invokevirtual 642, 3, 211, 1, 0, 319), 56, 0), ((158, .ireturn, 1, 0, 0, 0, 0), 1000, 0), ((159, .aload_n 0, 1, 0, 0, 0, 0), 5, 0)],
  [((160, .aload_n 0, 1, 0, 0, 0, 0), 5, 0), ((161, .invokevirtual 627, 3, 210, 1, 0, 801), 56, 0), ((164, .invokevirtual 729, 3, 219, 2, 0, 814), 56, 0), ((167, .ifCond .lt 10, 3, 177, 0, 0, 0), 40, 0), ((170, .aload_n 0, 1, 0, 0, 0, 0), 5, 0), ((171, .invokevirtual 638, 3, 212, 1, 0, 294), 56, 0), ((174, .ifCond .ne 5, 3, 179, 0, 0, 0), 39, 0)],
  [((177, .iconst 0, 1, 0, 0, 0, 0), 12, 0), ((178, .ireturn, 1, 0, 0, 0, 0), 1000, 0), ((179, .iinc 2 1, 3, 1, 0, 0, 0), 36, 2), ((182, .aload_n 0, 1, 0, 0, 0, 0), 5, 0), ((183, .bipush 44, 2, 44, 0, 0, 0), 13, 0), ((185, .invokevirtual 635, 3, 36, 2, 0, 299), 56, 0), ((188, .istore 4, 2, 0, 0, 0, 0), 6, 4), ((190, .iload 4, 2, 0, 0, 0, 0), 0, 4)],
  [((192, .ifCond .eq (-56), 3, 136, 0, 0, 0), 38, 0), ((195, .aload_n 0, 1, 0, 0, 0, 0), 5, 0), ((196, .invokevirtual 638, 3, 212, 1, 0, 294), 56, 0), ((199, .ifCond .ne (-63), 3, 136, 0, 0, 0), 39, 0), ((202, .iconst 0, 1, 0, 0, 0, 0), 12, 0), ((203, .ireturn, 1, 0, 0, 0, 0), 1000, 0), ((204, .aload_n 0, 1, 0, 0, 0, 0), 5, 0), ((205, .bipush 14, 2, 14, 0, 0, 0), 13, 0), ((207, .iconst 0, 1, 0, 0, 0, 0), 12, 0)],
  [((208, .iconst 0, 1, 0, 0, 0, 0), 12, 0), ((209, .iconst 0, 1, 0, 0, 0, 0), 12, 0), ((210, .invokevirtual 682, 3, 30, 5, 0, 269), 56, 0), ((213, .istore 5, 2, 0, 0, 0, 0), 6, 5), ((215, .aload_n 0, 1, 0, 0, 0, 0), 5, 0), ((216, .bipush 61, 2, 61, 0, 0, 0), 13, 0), ((218, .invokevirtual 635, 3, 36, 2, 0, 299), 56, 0), ((221, .ifCond .ne 12, 3, 233, 0, 0, 0), 39, 0)],
  [((224, .aload_n 0, 1, 0, 0, 0, 0), 5, 0), ((225, .iconst 0, 1, 0, 0, 0, 0), 12, 0), ((226, .iload_n 1, 1, 0, 0, 0, 0), 1, 1), ((227, .iload_n 2, 1, 0, 0, 0, 0), 1, 2), ((228, .iload_n 3, 1, 0, 0, 0, 0), 1, 3), ((229, .invokevirtual 736, 3, 231, 5, 0, 317), 56, 0), ((232, .ireturn, 1, 0, 0, 0, 0), 1000, 0), ((233, .aload_n 0, 1, 0, 0, 0, 0), 5, 0), ((234, .invokevirtual 690, 3, 215, 1, 0, 293), 56, 0), ((237, .istore 6, 2, 0, 0, 0, 0), 6, 6), ((239, .aload_n 0, 1, 0, 0, 0, 0), 5, 0)],
  [((240, .invokevirtual 638, 3, 212, 1, 0, 294), 56, 0), ((243, .ifCond .ne 5, 3, 248, 0, 0, 0), 39, 0), ((246, .iconst 0, 1, 0, 0, 0, 0), 12, 0), ((247, .ireturn, 1, 0, 0, 0, 0), 1000, 0), ((248, .aload_n 0, 1, 0, 0, 0, 0), 5, 0), ((249, .invokevirtual 693, 3, 217, 1, 0, 295), 56, 0), ((252, .ifCond .ne 8, 3, 260, 0, 0, 0), 39, 0), ((255, .aload_n 0, 1, 0, 0, 0, 0), 5, 0)],
  [((256, .invokevirtual 642, 3, 211, 1, 0, 319), 56, 0), ((259, .ireturn, 1, 0, 0, 0, 0), 1000, 0), ((260, .aload_n 0, 1, 0, 0, 0, 0), 5, 0), ((261, .bipush 39, 2, 39, 0, 0, 0), 13, 0), ((263, .iload 6, 2, 0, 0, 0, 0), 0, 6), ((265, .iload_n 1, 1, 0, 0, 0, 0), 1, 1), ((266, .iload_n 2, 1, 0, 0, 0, 0), 1, 2), ((267, .bipush 100, 2, 100, 0, 0, 0), 13, 0), ((269, .imul, 1, 0, 0, 0, 0), 18, 0), ((270, .iload_n 3, 1, 0, 0, 0, 0), 1, 3), ((271, .iadd, 1, 0, 0, 0, 0), 16, 0)],
  [((272, .invokevirtual 686, 3, 31, 5, 0, 270), 56, 0), ((275, .aload_n 0, 1, 0, 0, 0, 0), 5, 0), ((276, .bipush 14, 2, 14, 0, 0, 0), 13, 0), ((278, .iconst 0, 1, 0, 0, 0, 0), 12, 0), ((279, .iconst 0, 1, 0, 0, 0, 0), 12, 0), ((280, .iconst 0, 1, 0, 0, 0, 0), 12, 0), ((281, .invokevirtual 686, 3, 31, 5, 0, 270), 56, 0), ((284, .aload_n 0, 1, 0, 0, 0, 0), 5, 0), ((285, .iconst 3, 1, 3, 0, 0, 0), 12, 0), ((286, .iconst 0, 1, 0, 0, 0, 0), 12, 0), ((287, .iconst 0, 1, 0, 0, 0, 0), 12, 0)],
  [((288, .iconst 0, 1, 0, 0, 0, 0), 12, 0), ((289, .invokevirtual 686, 3, 31, 5, 0, 270), 56, 0), ((292, .iconst 1, 1, 1, 0, 0, 0), 12, 0), ((293, .ireturn, 1, 0, 0, 0, 0), 1000, 0)]])
def al_mX12_localRow : ev_MeK := (al_yX12_localRow, prog_14_method_57_code, 7, (some .boolean), [[((0, .iconst 0, 1, 0, 0, 0, 0), 12, 0), ((1, .istore 5, 2, 0, 0, 0, 0), 6, 5), ((3, .iload_n 1, 1, 0, 0, 0, 0), 1, 1), ((4, .ifCond .le 14, 3, 18, 0, 0, 0), 43, 0), ((7, .aload_n 0, 1, 0, 0, 0, 0), 5, 0), ((8, .bipush 17, 2, 17, 0, 0, 0), 13, 0), ((10, .iconst 0, 1, 0, 0, 0, 0), 12, 0), ((11, .iconst 0, 1, 0, 0, 0, 0), 12, 0), ((12, .iload_n 1, 1, 0, 0, 0, 0), 1, 1), ((13, .invokevirtual 682, 3, 30, 5, 0, 269), 56, 0)],
  [((16, .istore 5, 2, 0, 0, 0, 0), 6, 5), ((18, .aload_n 0, 1, 0, 0, 0, 0), 5, 0), ((19, .bipush 18, 2, 18, 0, 0, 0), 13, 0), ((21, .iload_n 3, 1, 0, 0, 0, 0), 1, 3), ((22, .iconst 0, 1, 0, 0, 0, 0), 12, 0), ((23, .iconst 0, 1, 0, 0, 0, 0), 12, 0), ((24, .invokevirtual 682, 3, 30, 5, 0, 269), 56, 0), ((27, .istore 5, 2, 0, 0, 0, 0), 6, 5), ((29, .iload_n 3, 1, 0, 0, 0, 0), 1, 3), ((30, .iconst 1, 1, 1, 0, 0, 0), 12, 0), ((31, .isub, 1, 0, 0, 0, 0), 17, 0)],
  [((32, .istore 6, 2, 0, 0, 0, 0), 6, 6), ((34, .iload 6, 2, 0, 0, 0, 0), 0, 6), ((36, .ifCond .lt 24, 3, 60, 0, 0, 0), 40, 0), ((39, .aload_n 0, 1, 0, 0, 0, 0), 5, 0), ((40, .bipush 19, 2, 19, 0, 0, 0), 13, 0), ((42, .iload 4, 2, 0, 0, 0, 0), 0, 4), ((44, .iload 6, 2, 0, 0, 0, 0), 0, 6), ((46, .iadd, 1, 0, 0, 0, 0), 16, 0), ((47, .iconst 0, 1, 0, 0, 0, 0), 12, 0)],
  [((48, .iconst 0, 1, 0, 0, 0, 0), 12, 0), ((49, .invokevirtual 682, 3, 30, 5, 0, 269), 56, 0), ((52, .istore 5, 2, 0, 0, 0, 0), 6, 5), ((54, .iinc 6 (-1), 3, 4294967295, 0, 0, 0), 36, 6), ((57, .goto (-23), 3, 34, 0, 0, 0), 37, 0), ((60, .iconst 0, 1, 0, 0, 0, 0), 12, 0), ((61, .istore 6, 2, 0, 0, 0, 0), 6, 6), ((63, .iload 6, 2, 0, 0, 0, 0), 0, 6)],
  [((65, .iload_n 3, 1, 0, 0, 0, 0), 1, 3), ((66, .if_icmp .ge 30, 3, 96, 0, 0, 0), 47, 0), ((69, .aload_n 0, 1, 0, 0, 0, 0), 5, 0), ((70, .aload_n 0, 1, 0, 0, 0, 0), 5, 0), ((71, .getfield 42, 3, 0, 23, 20, 54), 50, 0), ((74, .iload_n 2, 1, 0, 0, 0, 0), 1, 2), ((75, .iconst 2, 1, 2, 0, 0, 0), 12, 0), ((76, .iload 6, 2, 0, 0, 0, 0), 0, 6), ((78, .imul, 1, 0, 0, 0, 0), 18, 0), ((79, .iadd, 1, 0, 0, 0, 0), 16, 0)],
  [((80, .laload, 1, 0, 0, 0, 0), 58, 0), ((81, .l2i, 1, 0, 0, 0, 0), 33, 0), ((82, .iload 4, 2, 0, 0, 0, 0), 0, 4), ((84, .iload 6, 2, 0, 0, 0, 0), 0, 6), ((86, .iadd, 1, 0, 0, 0, 0), 16, 0), ((87, .invokevirtual 732, 3, 220, 3, 0, 815), 56, 0), ((90, .iinc 6 1, 3, 1, 0, 0, 0), 36, 6), ((93, .goto (-30), 3, 63, 0, 0, 0), 37, 0)],
  [((96, .iconst 1, 1, 1, 0, 0, 0), 12, 0), ((97, .ireturn, 1, 0, 0, 0, 0), 1000, 0)]])
def al_mX12_readFunction : ev_MeK := (al_yX12_readFunction, prog_14_method_58_code, 4, (some .boolean), [[((0, .aload_n 0, 1, 0, 0, 0, 0), 5, 0), ((1, .getfield 36, 3, 0, 21, 20, 51), 50, 0), ((4, .aload_n 0, 1, 0, 0, 0, 0), 5, 0), ((5, .getfield 624, 3, 0, 25, 0, 260), 50, 0), ((8, .iaload, 1, 0, 0, 0, 0), 52, 0), ((9, .iconst 1, 1, 1, 0, 0, 0), 12, 0), ((10, .if_icmp .eq 8, 3, 18, 0, 0, 0), 44, 0), ((13, .aload_n 0, 1, 0, 0, 0, 0), 5, 0), ((14, .invokevirtual 642, 3, 211, 1, 0, 319), 56, 0)],
  [((17, .ireturn, 1, 0, 0, 0, 0), 1000, 0), ((18, .aload_n 0, 1, 0, 0, 0, 0), 5, 0), ((19, .bipush 14, 2, 14, 0, 0, 0), 13, 0), ((21, .iconst 0, 1, 0, 0, 0, 0), 12, 0), ((22, .iconst 0, 1, 0, 0, 0, 0), 12, 0), ((23, .iconst 0, 1, 0, 0, 0, 0), 12, 0), ((24, .invokevirtual 682, 3, 30, 5, 0, 269), 56, 0), ((27, .istore_n 1, 1, 0, 0, 0, 0), 7, 1), ((28, .aload_n 0, 1, 0, 0, 0, 0), 5, 0), ((29, .aload_n 0, 1, 0, 0, 0, 0), 5, 0), ((30, .getfield 42, 3, 0, 23, 20, 54), 50, 0)],
  [((33, .aload_n 0, 1, 0, 0, 0, 0), 5, 0), ((34, .getfield 624, 3, 0, 25, 0, 260), 50, 0), ((37, .laload, 1, 0, 0, 0, 0), 58, 0), ((38, .l2i, 1, 0, 0, 0, 0), 33, 0), ((39, .aload_n 0, 1, 0, 0, 0, 0), 5, 0), ((40, .invokevirtual 627, 3, 210, 1, 0, 801), 56, 0), ((43, .invokevirtual 740, 3, 222, 3, 0, 816), 56, 0), ((46, .aload_n 0, 1, 0, 0, 0, 0), 5, 0), ((47, .getfield 618, 3, 0, 4, 0, 237), 50, 0)],
  [((50, .ifCond .gt 10, 3, 60, 0, 0, 0), 42, 0), ((53, .aload_n 0, 1, 0, 0, 0, 0), 5, 0), ((54, .invokevirtual 638, 3, 212, 1, 0, 294), 56, 0), ((57, .ifCond .ne 5, 3, 62, 0, 0, 0), 39, 0), ((60, .iconst 0, 1, 0, 0, 0, 0), 12, 0), ((61, .ireturn, 1, 0, 0, 0, 0), 1000, 0), ((62, .iconst 0, 1, 0, 0, 0, 0), 12, 0), ((63, .istore_n 2, 1, 0, 0, 0, 0), 7, 2)],
  [((64, .aload_n 0, 1, 0, 0, 0, 0), 5, 0), ((65, .bipush 46, 2, 46, 0, 0, 0), 13, 0), ((67, .invokevirtual 635, 3, 36, 2, 0, 299), 56, 0), ((70, .ifCond .ne 12, 3, 82, 0, 0, 0), 39, 0), ((73, .aload_n 0, 1, 0, 0, 0, 0), 5, 0), ((74, .bipush 58, 2, 58, 0, 0, 0), 13, 0), ((76, .invokevirtual 635, 3, 36, 2, 0, 299), 56, 0), ((79, .ifCond .eq 98, 3, 177, 0, 0, 0), 38, 0)],
  [((82, .iload_n 2, 1, 0, 0, 0, 0), 1, 2), ((83, .ifCond .ne 94, 3, 177, 0, 0, 0), 39, 0), ((86, .aload_n 0, 1, 0, 0, 0, 0), 5, 0), ((87, .bipush 58, 2, 58, 0, 0, 0), 13, 0), ((89, .invokevirtual 635, 3, 36, 2, 0, 299), 56, 0), ((92, .ifCond .eq 7, 3, 99, 0, 0, 0), 38, 0), ((95, .iconst 1, 1, 1, 0, 0, 0), 12, 0)],
  [((96, .goto 4, 3, 100, 0, 0, 0), 37, 0), ((99, .iconst 0, 1, 0, 0, 0, 0), 12, 0), ((100, .istore_n 2, 1, 0, 0, 0, 0), 7, 2), ((101, .aload_n 0, 1, 0, 0, 0, 0), 5, 0), ((102, .invokevirtual 690, 3, 215, 1, 0, 293), 56, 0), ((105, .istore_n 3, 1, 0, 0, 0, 0), 7, 3), ((106, .aload_n 0, 1, 0, 0, 0, 0), 5, 0), ((107, .invokevirtual 743, 3, 223, 1, 0, 817), 56, 0), ((110, .aload_n 0, 1, 0, 0, 0, 0), 5, 0), ((111, .invokevirtual 638, 3, 212, 1, 0, 294), 56, 0)],
  [((114, .ifCond .ne 5, 3, 119, 0, 0, 0), 39, 0), ((117, .iconst 0, 1, 0, 0, 0, 0), 12, 0), ((118, .ireturn, 1, 0, 0, 0, 0), 1000, 0), ((119, .aload_n 0, 1, 0, 0, 0, 0), 5, 0), ((120, .getfield 36, 3, 0, 21, 20, 51), 50, 0), ((123, .aload_n 0, 1, 0, 0, 0, 0), 5, 0), ((124, .getfield 624, 3, 0, 25, 0, 260), 50, 0), ((127, .iaload, 1, 0, 0, 0, 0), 52, 0)],
  [((128, .iconst 1, 1, 1, 0, 0, 0), 12, 0), ((129, .if_icmp .eq 8, 3, 137, 0, 0, 0), 44, 0), ((132, .aload_n 0, 1, 0, 0, 0, 0), 5, 0), ((133, .invokevirtual 642, 3, 211, 1, 0, 319), 56, 0), ((136, .ireturn, 1, 0, 0, 0, 0), 1000, 0), ((137, .aload_n 0, 1, 0, 0, 0, 0), 5, 0), ((138, .iconst 5, 1, 5, 0, 0, 0), 12, 0), ((139, .aload_n 0, 1, 0, 0, 0, 0), 5, 0), ((140, .getfield 42, 3, 0, 23, 20, 54), 50, 0), ((143, .aload_n 0, 1, 0, 0, 0, 0), 5, 0)],
  [((144, .getfield 624, 3, 0, 25, 0, 260), 50, 0), ((147, .laload, 1, 0, 0, 0, 0), 58, 0), ((148, .l2i, 1, 0, 0, 0, 0), 33, 0), ((149, .iconst 0, 1, 0, 0, 0, 0), 12, 0), ((150, .iconst 0, 1, 0, 0, 0, 0), 12, 0), ((151, .invokevirtual 682, 3, 30, 5, 0, 269), 56, 0), ((154, .istore_n 1, 1, 0, 0, 0, 0), 7, 1), ((155, .aload_n 0, 1, 0, 0, 0, 0), 5, 0), ((156, .iconst 3, 1, 3, 0, 0, 0), 12, 0), ((157, .putfield 676, 3, 0, 61, 0, 806), 51, 0)],
  [((160, .aload_n 0, 1, 0, 0, 0, 0), 5, 0), ((161, .iload_n 3, 1, 0, 0, 0, 0), 1, 3), ((162, .putfield 669, 3, 0, 63, 0, 804), 51, 0), ((165, .aload_n 0, 1, 0, 0, 0, 0), 5, 0), ((166, .invokevirtual 638, 3, 212, 1, 0, 294), 56, 0), ((169, .ifCond .ne 5, 3, 174, 0, 0, 0), 39, 0), ((172, .iconst 0, 1, 0, 0, 0, 0), 12, 0), ((173, .ireturn, 1, 0, 0, 0, 0), 1000, 0), ((174, .goto (-110), 3, 64, 0, 0, 0), 37, 0)],
  [((177, .aload_n 0, 1, 0, 0, 0, 0), 5, 0), ((178, .bipush 41, 2, 41, 0, 0, 0), 13, 0), ((180, .aload_n 0, 1, 0, 0, 0, 0), 5, 0), ((181, .getfield 676, 3, 0, 61, 0, 806), 50, 0), ((184, .aload_n 0, 1, 0, 0, 0, 0), 5, 0), ((185, .getfield 679, 3, 0, 62, 0, 807), 50, 0), ((188, .aload_n 0, 1, 0, 0, 0, 0), 5, 0), ((189, .getfield 669, 3, 0, 63, 0, 804), 50, 0)],
  [((192, .invokevirtual 686, 3, 31, 5, 0, 270), 56, 0), ((195, .aload_n 0, 1, 0, 0, 0, 0), 5, 0), ((196, .bipush 19, 2, 19, 0, 0, 0), 13, 0), ((198, .iload_n 2, 1, 0, 0, 0, 0), 1, 2), ((199, .iconst 0, 1, 0, 0, 0, 0), 12, 0), ((200, .iconst 0, 1, 0, 0, 0, 0), 12, 0), ((201, .invokevirtual 686, 3, 31, 5, 0, 270), 56, 0), ((204, .iconst 1, 1, 1, 0, 0, 0), 12, 0), ((205, .ireturn, 1, 0, 0, 0, 0), 1000, 0)]])
def al_mX12_readFor : ev_MeK := (al_yX12_readFor, prog_14_method_59_code, 7, (some .boolean), [[((0, .aload_n 0, 1, 0, 0, 0, 0), 5, 0), ((1, .getfield 36, 3, 0, 21, 20, 51), 50, 0), ((4, .aload_n 0, 1, 0, 0, 0, 0), 5, 0), ((5, .getfield 624, 3, 0, 25, 0, 260), 50, 0), ((8, .iaload, 1, 0, 0, 0, 0), 52, 0), ((9, .iconst 1, 1, 1, 0, 0, 0), 12, 0), ((10, .if_icmp .eq 8, 3, 18, 0, 0, 0), 44, 0), ((13, .aload_n 0, 1, 0, 0, 0, 0), 5, 0), ((14, .invokevirtual 642, 3, 211, 1, 0, 319), 56, 0)],
  [((17, .ireturn, 1, 0, 0, 0, 0), 1000, 0), ((18, .aload_n 0, 1, 0, 0, 0, 0), 5, 0), ((19, .getfield 624, 3, 0, 25, 0, 260), 50, 0), ((22, .istore_n 2, 1, 0, 0, 0, 0), 7, 2), ((23, .aload_n 0, 1, 0, 0, 0, 0), 5, 0), ((24, .aload_n 0, 1, 0, 0, 0, 0), 5, 0), ((25, .invokevirtual 627, 3, 210, 1, 0, 801), 56, 0), ((28, .invokevirtual 729, 3, 219, 2, 0, 814), 56, 0), ((31, .istore_n 3, 1, 0, 0, 0, 0), 7, 3)],
  [((32, .iload_n 3, 1, 0, 0, 0, 0), 1, 3), ((33, .ifCond .lt 10, 3, 43, 0, 0, 0), 40, 0), ((36, .aload_n 0, 1, 0, 0, 0, 0), 5, 0), ((37, .invokevirtual 638, 3, 212, 1, 0, 294), 56, 0), ((40, .ifCond .ne 5, 3, 45, 0, 0, 0), 39, 0), ((43, .iconst 0, 1, 0, 0, 0, 0), 12, 0), ((44, .ireturn, 1, 0, 0, 0, 0), 1000, 0), ((45, .aload_n 0, 1, 0, 0, 0, 0), 5, 0), ((46, .bipush 61, 2, 61, 0, 0, 0), 13, 0)],
  [((48, .invokevirtual 635, 3, 36, 2, 0, 299), 56, 0), ((51, .ifCond .eq 31, 3, 82, 0, 0, 0), 38, 0), ((54, .aload_n 0, 1, 0, 0, 0, 0), 5, 0), ((55, .invokevirtual 638, 3, 212, 1, 0, 294), 56, 0), ((58, .ifCond .ne 5, 3, 63, 0, 0, 0), 39, 0), ((61, .iconst 0, 1, 0, 0, 0, 0), 12, 0), ((62, .ireturn, 1, 0, 0, 0, 0), 1000, 0), ((63, .aload_n 0, 1, 0, 0, 0, 0), 5, 0)],
  [((64, .bipush 31, 2, 31, 0, 0, 0), 13, 0), ((66, .iload_n 1, 1, 0, 0, 0, 0), 1, 1), ((67, .iload_n 2, 1, 0, 0, 0, 0), 1, 2), ((68, .iload_n 3, 1, 0, 0, 0, 0), 1, 3), ((69, .invokevirtual 686, 3, 31, 5, 0, 270), 56, 0), ((72, .aload_n 0, 1, 0, 0, 0, 0), 5, 0), ((73, .iconst 3, 1, 3, 0, 0, 0), 12, 0), ((74, .iconst 0, 1, 0, 0, 0, 0), 12, 0), ((75, .iconst 0, 1, 0, 0, 0, 0), 12, 0), ((76, .iconst 0, 1, 0, 0, 0, 0), 12, 0), ((77, .invokevirtual 686, 3, 31, 5, 0, 270), 56, 0)],
  [((80, .iconst 1, 1, 1, 0, 0, 0), 12, 0), ((81, .ireturn, 1, 0, 0, 0, 0), 1000, 0), ((82, .iconst 1, 1, 1, 0, 0, 0), 12, 0), ((83, .istore 4, 2, 0, 0, 0, 0), 6, 4), ((85, .aload_n 0, 1, 0, 0, 0, 0), 5, 0), ((86, .bipush 44, 2, 44, 0, 0, 0), 13, 0), ((88, .invokevirtual 635, 3, 36, 2, 0, 299), 56, 0), ((91, .ifCond .eq 56, 3, 147, 0, 0, 0), 38, 0), ((94, .aload_n 0, 1, 0, 0, 0, 0), 5, 0), ((95, .invokevirtual 638, 3, 212, 1, 0, 294), 56, 0)],
  [((98, .ifCond .ne 5, 3, 103, 0, 0, 0), 39, 0), ((101, .iconst 0, 1, 0, 0, 0, 0), 12, 0), ((102, .ireturn, 1, 0, 0, 0, 0), 1000, 0), ((103, .aload_n 0, 1, 0, 0, 0, 0), 5, 0), ((104, .getfield 36, 3, 0, 21, 20, 51), 50, 0), ((107, .aload_n 0, 1, 0, 0, 0, 0), 5, 0), ((108, .getfield 624, 3, 0, 25, 0, 260), 50, 0), ((111, .iaload, 1, 0, 0, 0, 0), 52, 0)],
  [((112, .iconst 1, 1, 1, 0, 0, 0), 12, 0), ((113, .if_icmp .eq 8, 3, 121, 0, 0, 0), 44, 0), ((116, .aload_n 0, 1, 0, 0, 0, 0), 5, 0), ((117, .invokevirtual 642, 3, 211, 1, 0, 319), 56, 0), ((120, .ireturn, 1, 0, 0, 0, 0), 1000, 0), ((121, .aload_n 0, 1, 0, 0, 0, 0), 5, 0), ((122, .aload_n 0, 1, 0, 0, 0, 0), 5, 0), ((123, .invokevirtual 627, 3, 210, 1, 0, 801), 56, 0), ((126, .invokevirtual 729, 3, 219, 2, 0, 814), 56, 0)],
  [((129, .ifCond .lt 10, 3, 139, 0, 0, 0), 40, 0), ((132, .aload_n 0, 1, 0, 0, 0, 0), 5, 0), ((133, .invokevirtual 638, 3, 212, 1, 0, 294), 56, 0), ((136, .ifCond .ne 5, 3, 141, 0, 0, 0), 39, 0), ((139, .iconst 0, 1, 0, 0, 0, 0), 12, 0), ((140, .ireturn, 1, 0, 0, 0, 0), 1000, 0), ((141, .iinc 4 1, 3, 1, 0, 0, 0), 36, 4)],
  [((144, .goto (-59), 3, 85, 0, 0, 0), 37, 0), ((147, .aload_n 0, 1, 0, 0, 0, 0), 5, 0), ((148, .invokevirtual 690, 3, 215, 1, 0, 293), 56, 0), ((151, .istore 5, 2, 0, 0, 0, 0), 6, 5), ((153, .aload_n 0, 1, 0, 0, 0, 0), 5, 0), ((154, .bipush 11, 2, 11, 0, 0, 0), 13, 0), ((156, .invokevirtual 746, 3, 214, 2, 0, 309), 56, 0), ((159, .ifCond .ne 5, 3, 164, 0, 0, 0), 39, 0)],
  [((162, .iconst 0, 1, 0, 0, 0, 0), 12, 0), ((163, .ireturn, 1, 0, 0, 0, 0), 1000, 0), ((164, .aload_n 0, 1, 0, 0, 0, 0), 5, 0), ((165, .invokevirtual 693, 3, 217, 1, 0, 295), 56, 0), ((168, .ifCond .ne 8, 3, 176, 0, 0, 0), 39, 0), ((171, .aload_n 0, 1, 0, 0, 0, 0), 5, 0), ((172, .invokevirtual 642, 3, 211, 1, 0, 319), 56, 0), ((175, .ireturn, 1, 0, 0, 0, 0), 1000, 0)],
  [((176, .aload_n 0, 1, 0, 0, 0, 0), 5, 0), ((177, .bipush 14, 2, 14, 0, 0, 0), 13, 0), ((179, .iconst 0, 1, 0, 0, 0, 0), 12, 0), ((180, .iconst 0, 1, 0, 0, 0, 0), 12, 0), ((181, .iconst 0, 1, 0, 0, 0, 0), 12, 0), ((182, .invokevirtual 682, 3, 30, 5, 0, 269), 56, 0), ((185, .istore 6, 2, 0, 0, 0, 0), 6, 6), ((187, .aload_n 0, 1, 0, 0, 0, 0), 5, 0), ((188, .bipush 35, 2, 35, 0, 0, 0), 13, 0), ((190, .iload 5, 2, 0, 0, 0, 0), 0, 5)],
  [((192, .iload_n 2, 1, 0, 0, 0, 0), 1, 2), ((193, .iload 4, 2, 0, 0, 0, 0), 0, 4), ((195, .bipush 100, 2, 100, 0, 0, 0), 13, 0), ((197, .imul, 1, 0, 0, 0, 0), 18, 0), ((198, .iload_n 3, 1, 0, 0, 0, 0), 1, 3), ((199, .iadd, 1, 0, 0, 0, 0), 16, 0), ((200, .invokevirtual 686, 3, 31, 5, 0, 270), 56, 0), ((203, .aload_n 0, 1, 0, 0, 0, 0), 5, 0), ((204, .bipush 14, 2, 14, 0, 0, 0), 13, 0), ((206, .iconst 0, 1, 0, 0, 0, 0), 12, 0), ((207, .iconst 0, 1, 0, 0, 0, 0), 12, 0)],
  [((208, .iconst 0, 1, 0, 0, 0, 0), 12, 0), ((209, .invokevirtual 686, 3, 31, 5, 0, 270), 56, 0), ((212, .aload_n 0, 1, 0, 0, 0, 0), 5, 0), ((213, .iconst 3, 1, 3, 0, 0, 0), 12, 0), ((214, .iconst 0, 1, 0, 0, 0, 0), 12, 0), ((215, .iconst 0, 1, 0, 0, 0, 0), 12, 0), ((216, .iconst 0, 1, 0, 0, 0, 0), 12, 0), ((217, .invokevirtual 686, 3, 31, 5, 0, 270), 56, 0), ((220, .iconst 1, 1, 1, 0, 0, 0), 12, 0), ((221, .ireturn, 1, 0, 0, 0, 0), 1000, 0)]])
def al_mX12_leftOf : ev_MeK := (al_yX12_leftOf, prog_14_method_60_code, 1, (some .int), [[((0, .iload_n 0, 1, 0, 0, 0, 0), 1, 0), ((1, .lookupswitch 168 #[(37, 165), (38, 153), (42, 165), (43, 162), (45, 162), (60, 147), (62, 147), (124, 149), (126, 151), (300, 159), (302, 147), (303, 147), (304, 147), (305, 147), (306, 156), (307, 156), (308, 165)], 147, 0, 0, 0, 0), 59, 0)],
  [],
  [],
  [],
  [],
  [],
  [],
  [],
  [],
  [((148, .iconst 3, 1, 3, 0, 0, 0), 12, 0), ((149, .ireturn, 1, 0, 0, 0, 0), 1000, 0), ((150, .iconst 4, 1, 4, 0, 0, 0), 12, 0), ((151, .ireturn, 1, 0, 0, 0, 0), 1000, 0), ((152, .iconst 5, 1, 5, 0, 0, 0), 12, 0), ((153, .ireturn, 1, 0, 0, 0, 0), 1000, 0), ((154, .bipush 6, 2, 6, 0, 0, 0), 13, 0), ((156, .ireturn, 1, 0, 0, 0, 0), 1000, 0), ((157, .bipush 7, 2, 7, 0, 0, 0), 13, 0), ((159, .ireturn, 1, 0, 0, 0, 0), 1000, 0)],
  [((160, .bipush 9, 2, 9, 0, 0, 0), 13, 0), ((162, .ireturn, 1, 0, 0, 0, 0), 1000, 0), ((163, .bipush 10, 2, 10, 0, 0, 0), 13, 0), ((165, .ireturn, 1, 0, 0, 0, 0), 1000, 0), ((166, .bipush 11, 2, 11, 0, 0, 0), 13, 0), ((168, .ireturn, 1, 0, 0, 0, 0), 1000, 0), ((169, .iconst 0, 1, 0, 0, 0, 0), 12, 0), ((170, .ireturn, 1, 0, 0, 0, 0), 1000, 0)]])
def al_mX12_strength : ev_MeK := (al_yX12_strength, prog_14_method_61_code, 1, (some .int), [[((0, .aload_n 0, 1, 0, 0, 0, 0), 5, 0), ((1, .bipush 15, 2, 15, 0, 0, 0), 13, 0), ((3, .invokevirtual 645, 3, 34, 2, 0, 292), 56, 0), ((6, .ifCond .eq 5, 3, 11, 0, 0, 0), 38, 0), ((9, .iconst 1, 1, 1, 0, 0, 0), 12, 0), ((10, .ireturn, 1, 0, 0, 0, 0), 1000, 0), ((11, .aload_n 0, 1, 0, 0, 0, 0), 5, 0), ((12, .iconst 1, 1, 1, 0, 0, 0), 12, 0), ((13, .invokevirtual 645, 3, 34, 2, 0, 292), 56, 0)],
  [((16, .ifCond .eq 5, 3, 21, 0, 0, 0), 38, 0), ((19, .iconst 2, 1, 2, 0, 0, 0), 12, 0), ((20, .ireturn, 1, 0, 0, 0, 0), 1000, 0), ((21, .aload_n 0, 1, 0, 0, 0, 0), 5, 0), ((22, .getfield 36, 3, 0, 21, 20, 51), 50, 0), ((25, .aload_n 0, 1, 0, 0, 0, 0), 5, 0), ((26, .getfield 624, 3, 0, 25, 0, 260), 50, 0), ((29, .iaload, 1, 0, 0, 0, 0), 52, 0), ((30, .iconst 5, 1, 5, 0, 0, 0), 12, 0), ((31, .if_icmp .ne 19, 3, 50, 0, 0, 0), 45, 0)],
  [((34, .aload_n 0, 1, 0, 0, 0, 0), 5, 0), ((35, .getfield 42, 3, 0, 23, 20, 54), 50, 0), ((38, .aload_n 0, 1, 0, 0, 0, 0), 5, 0), ((39, .getfield 624, 3, 0, 25, 0, 260), 50, 0), ((42, .laload, 1, 0, 0, 0, 0), 58, 0), ((43, .l2i, 1, 0, 0, 0, 0), 33, 0), ((44, .invokestatic 749, 3, 234, 1, 0, 818), 57, 0), ((47, .goto 4, 3, 51, 0, 0, 0), 37, 0)],
  [((50, .iconst 0, 1, 0, 0, 0, 0), 12, 0), ((51, .ireturn, 1, 0, 0, 0, 0), 1000, 0)]])
def al_mX12_readE : ev_MeK := (al_yX12_readE, prog_14_method_62_code, 4, (some .boolean), [[((0, .aload_n 0, 1, 0, 0, 0, 0), 5, 0), ((1, .invokevirtual 693, 3, 217, 1, 0, 295), 56, 0), ((4, .ifCond .ne 8, 3, 12, 0, 0, 0), 39, 0), ((7, .aload_n 0, 1, 0, 0, 0, 0), 5, 0), ((8, .invokevirtual 642, 3, 211, 1, 0, 319), 56, 0), ((11, .ireturn, 1, 0, 0, 0, 0), 1000, 0), ((12, .aload_n 0, 1, 0, 0, 0, 0), 5, 0), ((13, .invokevirtual 699, 3, 216, 1, 0, 297), 56, 0)],
  [((16, .ifCond .ne 5, 3, 21, 0, 0, 0), 39, 0), ((19, .iconst 0, 1, 0, 0, 0, 0), 12, 0), ((20, .ireturn, 1, 0, 0, 0, 0), 1000, 0), ((21, .aload_n 0, 1, 0, 0, 0, 0), 5, 0), ((22, .iconst 1, 1, 1, 0, 0, 0), 12, 0), ((23, .iconst 0, 1, 0, 0, 0, 0), 12, 0), ((24, .iconst 0, 1, 0, 0, 0, 0), 12, 0), ((25, .iconst 0, 1, 0, 0, 0, 0), 12, 0), ((26, .invokevirtual 686, 3, 31, 5, 0, 270), 56, 0), ((29, .aload_n 0, 1, 0, 0, 0, 0), 5, 0), ((30, .iconst 4, 1, 4, 0, 0, 0), 12, 0), ((31, .iload_n 1, 1, 0, 0, 0, 0), 1, 1)],
  [((32, .iconst 0, 1, 0, 0, 0, 0), 12, 0), ((33, .iconst 0, 1, 0, 0, 0, 0), 12, 0), ((34, .invokevirtual 686, 3, 31, 5, 0, 270), 56, 0), ((37, .aload_n 0, 1, 0, 0, 0, 0), 5, 0), ((38, .bipush 14, 2, 14, 0, 0, 0), 13, 0), ((40, .invokevirtual 645, 3, 34, 2, 0, 292), 56, 0), ((43, .ifCond .ne 30, 3, 73, 0, 0, 0), 39, 0), ((46, .aload_n 0, 1, 0, 0, 0, 0), 5, 0), ((47, .bipush 35, 2, 35, 0, 0, 0), 13, 0)],
  [((49, .invokevirtual 635, 3, 36, 2, 0, 299), 56, 0), ((52, .ifCond .ne 21, 3, 73, 0, 0, 0), 39, 0), ((55, .aload_n 0, 1, 0, 0, 0, 0), 5, 0), ((56, .bipush 45, 2, 45, 0, 0, 0), 13, 0), ((58, .invokevirtual 635, 3, 36, 2, 0, 299), 56, 0), ((61, .ifCond .ne 12, 3, 73, 0, 0, 0), 39, 0)],
  [((64, .aload_n 0, 1, 0, 0, 0, 0), 5, 0), ((65, .bipush 126, 2, 126, 0, 0, 0), 13, 0), ((67, .invokevirtual 635, 3, 36, 2, 0, 299), 56, 0), ((70, .ifCond .eq 54, 3, 124, 0, 0, 0), 38, 0), ((73, .aload_n 0, 1, 0, 0, 0, 0), 5, 0), ((74, .invokevirtual 690, 3, 215, 1, 0, 293), 56, 0), ((77, .istore_n 2, 1, 0, 0, 0, 0), 7, 2), ((78, .aload_n 0, 1, 0, 0, 0, 0), 5, 0), ((79, .bipush 14, 2, 14, 0, 0, 0), 13, 0)],
  [((81, .invokevirtual 645, 3, 34, 2, 0, 292), 56, 0), ((84, .ifCond .eq 7, 3, 91, 0, 0, 0), 38, 0), ((87, .iconst 0, 1, 0, 0, 0, 0), 12, 0), ((88, .goto 13, 3, 101, 0, 0, 0), 37, 0), ((91, .aload_n 0, 1, 0, 0, 0, 0), 5, 0), ((92, .getfield 42, 3, 0, 23, 20, 54), 50, 0), ((95, .aload_n 0, 1, 0, 0, 0, 0), 5, 0)],
  [((96, .getfield 624, 3, 0, 25, 0, 260), 50, 0), ((99, .laload, 1, 0, 0, 0, 0), 58, 0), ((100, .l2i, 1, 0, 0, 0, 0), 33, 0), ((101, .istore_n 3, 1, 0, 0, 0, 0), 7, 3), ((102, .aload_n 0, 1, 0, 0, 0, 0), 5, 0), ((103, .iconst 5, 1, 5, 0, 0, 0), 12, 0), ((104, .iload_n 3, 1, 0, 0, 0, 0), 1, 3), ((105, .iload_n 2, 1, 0, 0, 0, 0), 1, 2), ((106, .iconst 0, 1, 0, 0, 0, 0), 12, 0), ((107, .invokevirtual 686, 3, 31, 5, 0, 270), 56, 0), ((110, .aload_n 0, 1, 0, 0, 0, 0), 5, 0), ((111, .iconst 3, 1, 3, 0, 0, 0), 12, 0)],
  [((112, .bipush 12, 2, 12, 0, 0, 0), 13, 0), ((114, .iconst 0, 1, 0, 0, 0, 0), 12, 0), ((115, .iconst 0, 1, 0, 0, 0, 0), 12, 0), ((116, .invokevirtual 686, 3, 31, 5, 0, 270), 56, 0), ((119, .aload_n 0, 1, 0, 0, 0, 0), 5, 0), ((120, .invokevirtual 638, 3, 212, 1, 0, 294), 56, 0), ((123, .ireturn, 1, 0, 0, 0, 0), 1000, 0), ((124, .aload_n 0, 1, 0, 0, 0, 0), 5, 0), ((125, .invokevirtual 752, 3, 238, 1, 0, 819), 56, 0)],
  [((128, .ireturn, 1, 0, 0, 0, 0), 1000, 0)]])
def al_mX12_constant : ev_MeK := (al_yX12_constant, prog_14_method_63_code, 4, (some .boolean), [[((0, .aload_n 0, 1, 0, 0, 0, 0), 5, 0), ((1, .iload_n 1, 1, 0, 0, 0, 0), 1, 1), ((2, .iload_n 2, 1, 0, 0, 0, 0), 1, 2), ((3, .iconst 0, 1, 0, 0, 0, 0), 12, 0), ((4, .iconst 0, 1, 0, 0, 0, 0), 12, 0), ((5, .invokevirtual 682, 3, 30, 5, 0, 269), 56, 0), ((8, .istore_n 3, 1, 0, 0, 0, 0), 7, 3), ((9, .aload_n 0, 1, 0, 0, 0, 0), 5, 0), ((10, .iconst (-1), 1, 4294967295, 0, 0, 0), 12, 0), ((11, .putfield 755, 3, 0, 64, 0, 820), 51, 0), ((14, .aload_n 0, 1, 0, 0, 0, 0), 5, 0), ((15, .invokevirtual 638, 3, 212, 1, 0, 294), 56, 0)],
  [((18, .ireturn, 1, 0, 0, 0, 0), 1000, 0)]])
def al_mX12_operand : ev_MeK := (al_yX12_operand, prog_14_method_64_code, 2, (some .boolean), [[((0, .aload_n 0, 1, 0, 0, 0, 0), 5, 0), ((1, .iconst (-1), 1, 4294967295, 0, 0, 0), 12, 0), ((2, .putfield 755, 3, 0, 64, 0, 820), 51, 0), ((5, .aload_n 0, 1, 0, 0, 0, 0), 5, 0), ((6, .getfield 36, 3, 0, 21, 20, 51), 50, 0), ((9, .aload_n 0, 1, 0, 0, 0, 0), 5, 0), ((10, .getfield 624, 3, 0, 25, 0, 260), 50, 0), ((13, .iaload, 1, 0, 0, 0, 0), 52, 0), ((14, .iconst 2, 1, 2, 0, 0, 0), 12, 0), ((15, .if_icmp .ne 43, 3, 58, 0, 0, 0), 45, 0)],
  [((18, .aload_n 0, 1, 0, 0, 0, 0), 5, 0), ((19, .getfield 83, 3, 0, 39, 20, 68), 50, 0), ((22, .aload_n 0, 1, 0, 0, 0, 0), 5, 0), ((23, .getfield 758, 3, 0, 40, 0, 268), 50, 0), ((26, .aload_n 0, 1, 0, 0, 0, 0), 5, 0), ((27, .getfield 42, 3, 0, 23, 20, 54), 50, 0), ((30, .aload_n 0, 1, 0, 0, 0, 0), 5, 0), ((31, .getfield 624, 3, 0, 25, 0, 260), 50, 0)],
  [((34, .laload, 1, 0, 0, 0, 0), 58, 0), ((35, .lastore, 1, 0, 0, 0, 0), 58, 0), ((36, .aload_n 0, 1, 0, 0, 0, 0), 5, 0), ((37, .dup, 1, 0, 0, 0, 0), 35, 0), ((38, .getfield 758, 3, 0, 40, 0, 268), 50, 0), ((41, .iconst 1, 1, 1, 0, 0, 0), 12, 0), ((42, .iadd, 1, 0, 0, 0, 0), 16, 0), ((43, .putfield 758, 3, 0, 40, 0, 268), 51, 0), ((46, .aload_n 0, 1, 0, 0, 0, 0), 5, 0), ((47, .iconst 4, 1, 4, 0, 0, 0), 12, 0)],
  [((48, .aload_n 0, 1, 0, 0, 0, 0), 5, 0), ((49, .getfield 758, 3, 0, 40, 0, 268), 50, 0), ((52, .iconst 1, 1, 1, 0, 0, 0), 12, 0), ((53, .isub, 1, 0, 0, 0, 0), 17, 0), ((54, .invokevirtual 761, 3, 237, 3, 0, 821), 56, 0), ((57, .ireturn, 1, 0, 0, 0, 0), 1000, 0), ((58, .aload_n 0, 1, 0, 0, 0, 0), 5, 0), ((59, .getfield 36, 3, 0, 21, 20, 51), 50, 0), ((62, .aload_n 0, 1, 0, 0, 0, 0), 5, 0), ((63, .getfield 624, 3, 0, 25, 0, 260), 50, 0)],
  [((66, .iaload, 1, 0, 0, 0, 0), 52, 0), ((67, .iconst 3, 1, 3, 0, 0, 0), 12, 0), ((68, .if_icmp .ne 19, 3, 87, 0, 0, 0), 45, 0), ((71, .aload_n 0, 1, 0, 0, 0, 0), 5, 0), ((72, .iconst 5, 1, 5, 0, 0, 0), 12, 0), ((73, .aload_n 0, 1, 0, 0, 0, 0), 5, 0), ((74, .getfield 42, 3, 0, 23, 20, 54), 50, 0), ((77, .aload_n 0, 1, 0, 0, 0, 0), 5, 0), ((78, .getfield 624, 3, 0, 25, 0, 260), 50, 0)],
  [((81, .laload, 1, 0, 0, 0, 0), 58, 0), ((82, .l2i, 1, 0, 0, 0, 0), 33, 0), ((83, .invokevirtual 761, 3, 237, 3, 0, 821), 56, 0), ((86, .ireturn, 1, 0, 0, 0, 0), 1000, 0), ((87, .aload_n 0, 1, 0, 0, 0, 0), 5, 0), ((88, .bipush 13, 2, 13, 0, 0, 0), 13, 0), ((90, .invokevirtual 645, 3, 34, 2, 0, 292), 56, 0), ((93, .ifCond .eq 10, 3, 103, 0, 0, 0), 38, 0)],
  [((96, .aload_n 0, 1, 0, 0, 0, 0), 5, 0), ((97, .iconst 1, 1, 1, 0, 0, 0), 12, 0), ((98, .iconst 0, 1, 0, 0, 0, 0), 12, 0), ((99, .invokevirtual 761, 3, 237, 3, 0, 821), 56, 0), ((102, .ireturn, 1, 0, 0, 0, 0), 1000, 0), ((103, .aload_n 0, 1, 0, 0, 0, 0), 5, 0), ((104, .bipush 19, 2, 19, 0, 0, 0), 13, 0), ((106, .invokevirtual 645, 3, 34, 2, 0, 292), 56, 0), ((109, .ifCond .ne 12, 3, 121, 0, 0, 0), 39, 0)],
  [((112, .aload_n 0, 1, 0, 0, 0, 0), 5, 0), ((113, .bipush 7, 2, 7, 0, 0, 0), 13, 0), ((115, .invokevirtual 645, 3, 34, 2, 0, 292), 56, 0), ((118, .ifCond .eq 23, 3, 141, 0, 0, 0), 38, 0), ((121, .aload_n 0, 1, 0, 0, 0, 0), 5, 0), ((122, .iconst 2, 1, 2, 0, 0, 0), 12, 0), ((123, .aload_n 0, 1, 0, 0, 0, 0), 5, 0), ((124, .bipush 19, 2, 19, 0, 0, 0), 13, 0), ((126, .invokevirtual 645, 3, 34, 2, 0, 292), 56, 0)],
  [((129, .ifCond .eq 7, 3, 136, 0, 0, 0), 38, 0), ((132, .iconst 1, 1, 1, 0, 0, 0), 12, 0), ((133, .goto 4, 3, 137, 0, 0, 0), 37, 0), ((136, .iconst 0, 1, 0, 0, 0, 0), 12, 0), ((137, .invokevirtual 761, 3, 237, 3, 0, 821), 56, 0), ((140, .ireturn, 1, 0, 0, 0, 0), 1000, 0), ((141, .aload_n 0, 1, 0, 0, 0, 0), 5, 0), ((142, .sipush 301, 3, 301, 0, 0, 0), 14, 0)],
  [((145, .invokevirtual 635, 3, 36, 2, 0, 299), 56, 0), ((148, .ifCond .eq 51, 3, 199, 0, 0, 0), 38, 0), ((151, .aload_n 0, 1, 0, 0, 0, 0), 5, 0), ((152, .invokevirtual 627, 3, 210, 1, 0, 801), 56, 0), ((155, .istore_n 1, 1, 0, 0, 0, 0), 7, 1), ((156, .aload_n 0, 1, 0, 0, 0, 0), 5, 0), ((157, .invokevirtual 638, 3, 212, 1, 0, 294), 56, 0)],
  [((160, .ifCond .ne 5, 3, 165, 0, 0, 0), 39, 0), ((163, .iconst 0, 1, 0, 0, 0, 0), 12, 0), ((164, .ireturn, 1, 0, 0, 0, 0), 1000, 0), ((165, .aload_n 0, 1, 0, 0, 0, 0), 5, 0), ((166, .getfield 58, 3, 0, 30, 20, 60), 50, 0), ((169, .aload_n 0, 1, 0, 0, 0, 0), 5, 0), ((170, .invokevirtual 663, 3, 218, 1, 0, 803), 56, 0), ((173, .baload, 1, 0, 0, 0, 0), 54, 0), ((174, .ifCond .ne 10, 3, 184, 0, 0, 0), 39, 0)],
  [((177, .aload_n 0, 1, 0, 0, 0, 0), 5, 0), ((178, .iconst 4, 1, 4, 0, 0, 0), 12, 0), ((179, .iload_n 1, 1, 0, 0, 0, 0), 1, 1), ((180, .invokevirtual 631, 3, 209, 3, 0, 802), 56, 0), ((183, .ireturn, 1, 0, 0, 0, 0), 1000, 0), ((184, .aload_n 0, 1, 0, 0, 0, 0), 5, 0), ((185, .aload_n 0, 1, 0, 0, 0, 0), 5, 0), ((186, .bipush 30, 2, 30, 0, 0, 0), 13, 0), ((188, .iconst 1, 1, 1, 0, 0, 0), 12, 0), ((189, .iconst 0, 1, 0, 0, 0, 0), 12, 0), ((190, .iconst 0, 1, 0, 0, 0, 0), 12, 0), ((191, .invokevirtual 682, 3, 30, 5, 0, 269), 56, 0)],
  [((194, .putfield 755, 3, 0, 64, 0, 820), 51, 0), ((197, .iconst 1, 1, 1, 0, 0, 0), 12, 0), ((198, .ireturn, 1, 0, 0, 0, 0), 1000, 0), ((199, .aload_n 0, 1, 0, 0, 0, 0), 5, 0), ((200, .bipush 9, 2, 9, 0, 0, 0), 13, 0), ((202, .invokevirtual 645, 3, 34, 2, 0, 292), 56, 0), ((205, .ifCond .eq 17, 3, 222, 0, 0, 0), 38, 0)],
  [((208, .aload_n 0, 1, 0, 0, 0, 0), 5, 0), ((209, .bipush 19, 2, 19, 0, 0, 0), 13, 0), ((211, .iconst 0, 1, 0, 0, 0, 0), 12, 0), ((212, .iconst 0, 1, 0, 0, 0, 0), 12, 0), ((213, .iconst 0, 1, 0, 0, 0, 0), 12, 0), ((214, .invokevirtual 686, 3, 31, 5, 0, 270), 56, 0), ((217, .aload_n 0, 1, 0, 0, 0, 0), 5, 0), ((218, .invokevirtual 638, 3, 212, 1, 0, 294), 56, 0), ((221, .ireturn, 1, 0, 0, 0, 0), 1000, 0), ((222, .aload_n 0, 1, 0, 0, 0, 0), 5, 0), ((223, .bipush 123, 2, 123, 0, 0, 0), 13, 0)],
  [((225, .invokevirtual 635, 3, 36, 2, 0, 299), 56, 0), ((228, .ifCond .eq 8, 3, 236, 0, 0, 0), 38, 0), ((231, .aload_n 0, 1, 0, 0, 0, 0), 5, 0), ((232, .invokevirtual 764, 3, 248, 1, 0, 822), 56, 0), ((235, .ireturn, 1, 0, 0, 0, 0), 1000, 0), ((236, .aload_n 0, 1, 0, 0, 0, 0), 5, 0), ((237, .bipush 11, 2, 11, 0, 0, 0), 13, 0), ((239, .iconst 0, 1, 0, 0, 0, 0), 12, 0)],
  [((240, .iconst 0, 1, 0, 0, 0, 0), 12, 0), ((241, .iconst 0, 1, 0, 0, 0, 0), 12, 0), ((242, .invokevirtual 686, 3, 31, 5, 0, 270), 56, 0), ((245, .aload_n 0, 1, 0, 0, 0, 0), 5, 0), ((246, .bipush 7, 2, 7, 0, 0, 0), 13, 0), ((248, .iconst 0, 1, 0, 0, 0, 0), 12, 0), ((249, .iconst 0, 1, 0, 0, 0, 0), 12, 0), ((250, .iconst 0, 1, 0, 0, 0, 0), 12, 0), ((251, .invokevirtual 686, 3, 31, 5, 0, 270), 56, 0), ((254, .iconst 1, 1, 1, 0, 0, 0), 12, 0), ((255, .ireturn, 1, 0, 0, 0, 0), 1000, 0)]])
def al_mX12_readOps : ev_MeK := (al_yX12_readOps, prog_14_method_65_code, 6, (some .boolean), [[((0, .aload_n 0, 1, 0, 0, 0, 0), 5, 0), ((1, .invokevirtual 767, 3, 235, 1, 0, 823), 56, 0), ((4, .istore_n 2, 1, 0, 0, 0, 0), 7, 2), ((5, .iload_n 2, 1, 0, 0, 0, 0), 1, 2), ((6, .iload_n 1, 1, 0, 0, 0, 0), 1, 1), ((7, .if_icmp .gt 5, 3, 12, 0, 0, 0), 48, 0), ((10, .iconst 1, 1, 1, 0, 0, 0), 12, 0), ((11, .ireturn, 1, 0, 0, 0, 0), 1000, 0), ((12, .aload_n 0, 1, 0, 0, 0, 0), 5, 0), ((13, .invokevirtual 690, 3, 215, 1, 0, 293), 56, 0)],
  [((16, .istore_n 3, 1, 0, 0, 0, 0), 7, 3), ((17, .iload_n 2, 1, 0, 0, 0, 0), 1, 2), ((18, .iconst 1, 1, 1, 0, 0, 0), 12, 0), ((19, .if_icmp .ne 7, 3, 26, 0, 0, 0), 45, 0), ((22, .iconst 1, 1, 1, 0, 0, 0), 12, 0), ((23, .goto 22, 3, 45, 0, 0, 0), 37, 0), ((26, .iload_n 2, 1, 0, 0, 0, 0), 1, 2), ((27, .iconst 2, 1, 2, 0, 0, 0), 12, 0), ((28, .if_icmp .ne 7, 3, 35, 0, 0, 0), 45, 0), ((31, .iconst 2, 1, 2, 0, 0, 0), 12, 0)],
  [((32, .goto 13, 3, 45, 0, 0, 0), 37, 0), ((35, .aload_n 0, 1, 0, 0, 0, 0), 5, 0), ((36, .getfield 42, 3, 0, 23, 20, 54), 50, 0), ((39, .aload_n 0, 1, 0, 0, 0, 0), 5, 0), ((40, .getfield 624, 3, 0, 25, 0, 260), 50, 0), ((43, .laload, 1, 0, 0, 0, 0), 58, 0), ((44, .l2i, 1, 0, 0, 0, 0), 33, 0), ((45, .istore 4, 2, 0, 0, 0, 0), 6, 4), ((47, .iconst 0, 1, 0, 0, 0, 0), 12, 0)],
  [((48, .istore 5, 2, 0, 0, 0, 0), 6, 5), ((50, .iload_n 2, 1, 0, 0, 0, 0), 1, 2), ((51, .iconst 3, 1, 3, 0, 0, 0), 12, 0), ((52, .if_icmp .ge 24, 3, 76, 0, 0, 0), 47, 0), ((55, .aload_n 0, 1, 0, 0, 0, 0), 5, 0), ((56, .iload_n 2, 1, 0, 0, 0, 0), 1, 2), ((57, .iconst 1, 1, 1, 0, 0, 0), 12, 0), ((58, .if_icmp .ne 8, 3, 66, 0, 0, 0), 45, 0), ((61, .bipush 24, 2, 24, 0, 0, 0), 13, 0), ((63, .goto 5, 3, 68, 0, 0, 0), 37, 0)],
  [((66, .bipush 23, 2, 23, 0, 0, 0), 13, 0), ((68, .iconst 0, 1, 0, 0, 0, 0), 12, 0), ((69, .iconst 0, 1, 0, 0, 0, 0), 12, 0), ((70, .iconst 0, 1, 0, 0, 0, 0), 12, 0), ((71, .invokevirtual 682, 3, 30, 5, 0, 269), 56, 0), ((74, .istore 5, 2, 0, 0, 0, 0), 6, 5), ((76, .aload_n 0, 1, 0, 0, 0, 0), 5, 0), ((77, .iconst 4, 1, 4, 0, 0, 0), 12, 0), ((78, .iload_n 1, 1, 0, 0, 0, 0), 1, 1), ((79, .iconst 0, 1, 0, 0, 0, 0), 12, 0)],
  [((80, .iconst 0, 1, 0, 0, 0, 0), 12, 0), ((81, .invokevirtual 686, 3, 31, 5, 0, 270), 56, 0), ((84, .aload_n 0, 1, 0, 0, 0, 0), 5, 0), ((85, .bipush 6, 2, 6, 0, 0, 0), 13, 0), ((87, .iload 4, 2, 0, 0, 0, 0), 0, 4), ((89, .iload_n 3, 1, 0, 0, 0, 0), 1, 3), ((90, .iload 5, 2, 0, 0, 0, 0), 0, 5), ((92, .invokevirtual 686, 3, 31, 5, 0, 270), 56, 0), ((95, .aload_n 0, 1, 0, 0, 0, 0), 5, 0)],
  [((96, .iconst 3, 1, 3, 0, 0, 0), 12, 0), ((97, .iload_n 2, 1, 0, 0, 0, 0), 1, 2), ((98, .bipush 9, 2, 9, 0, 0, 0), 13, 0), ((100, .if_icmp .ne 8, 3, 108, 0, 0, 0), 45, 0), ((103, .bipush 8, 2, 8, 0, 0, 0), 13, 0), ((105, .goto 4, 3, 109, 0, 0, 0), 37, 0), ((108, .iload_n 2, 1, 0, 0, 0, 0), 1, 2), ((109, .iconst 0, 1, 0, 0, 0, 0), 12, 0), ((110, .iconst 0, 1, 0, 0, 0, 0), 12, 0), ((111, .invokevirtual 686, 3, 31, 5, 0, 270), 56, 0)],
  [((114, .aload_n 0, 1, 0, 0, 0, 0), 5, 0), ((115, .invokevirtual 638, 3, 212, 1, 0, 294), 56, 0), ((118, .ireturn, 1, 0, 0, 0, 0), 1000, 0)]])
def al_mX12_eventOf : ev_MeK := (al_yX12_eventOf, prog_14_method_66_code, 1, (some .int), [[((0, .iload_n 0, 1, 0, 0, 0, 0), 1, 0), ((1, .lookupswitch 107 #[(37, 92), (38, 95), (42, 87), (43, 83), (45, 85), (124, 98), (126, 101), (306, 104), (308, 89)], 83, 0, 0, 0, 0), 59, 0)],
  [],
  [],
  [],
  [],
  [((84, .iconst 3, 1, 3, 0, 0, 0), 12, 0), ((85, .ireturn, 1, 0, 0, 0, 0), 1000, 0), ((86, .iconst 4, 1, 4, 0, 0, 0), 12, 0), ((87, .ireturn, 1, 0, 0, 0, 0), 1000, 0), ((88, .iconst 5, 1, 5, 0, 0, 0), 12, 0), ((89, .ireturn, 1, 0, 0, 0, 0), 1000, 0), ((90, .bipush 6, 2, 6, 0, 0, 0), 13, 0), ((92, .ireturn, 1, 0, 0, 0, 0), 1000, 0), ((93, .bipush 7, 2, 7, 0, 0, 0), 13, 0), ((95, .ireturn, 1, 0, 0, 0, 0), 1000, 0)],
  [((96, .bipush 8, 2, 8, 0, 0, 0), 13, 0), ((98, .ireturn, 1, 0, 0, 0, 0), 1000, 0), ((99, .bipush 9, 2, 9, 0, 0, 0), 13, 0), ((101, .ireturn, 1, 0, 0, 0, 0), 1000, 0), ((102, .bipush 10, 2, 10, 0, 0, 0), 13, 0), ((104, .ireturn, 1, 0, 0, 0, 0), 1000, 0), ((105, .bipush 11, 2, 11, 0, 0, 0), 13, 0), ((107, .ireturn, 1, 0, 0, 0, 0), 1000, 0), ((108, .bipush 12, 2, 12, 0, 0, 0), 13, 0), ((110, .ireturn, 1, 0, 0, 0, 0), 1000, 0)]])
def al_mX12_binary : ev_MeK := (al_yX12_binary, prog_14_method_67_code, 5, (some .boolean), [[((0, .aload_n 0, 1, 0, 0, 0, 0), 5, 0), ((1, .iconst (-1), 1, 4294967295, 0, 0, 0), 12, 0), ((2, .putfield 755, 3, 0, 64, 0, 820), 51, 0), ((5, .iconst 0, 1, 0, 0, 0, 0), 12, 0), ((6, .istore 4, 2, 0, 0, 0, 0), 6, 4), ((8, .iload_n 1, 1, 0, 0, 0, 0), 1, 1), ((9, .iconst 3, 1, 3, 0, 0, 0), 12, 0), ((10, .if_icmp .ge 16, 3, 26, 0, 0, 0), 47, 0), ((13, .aload_n 0, 1, 0, 0, 0, 0), 5, 0), ((14, .getfield 74, 3, 0, 36, 20, 65), 50, 0)],
  [((17, .iload_n 3, 1, 0, 0, 0, 0), 1, 3), ((18, .aload_n 0, 1, 0, 0, 0, 0), 5, 0), ((19, .getfield 651, 3, 0, 41, 0, 267), 50, 0), ((22, .iastore, 1, 0, 0, 0, 0), 53, 0), ((23, .goto 134, 3, 157, 0, 0, 0), 37, 0), ((26, .iload_n 1, 1, 0, 0, 0, 0), 1, 1), ((27, .sipush 300, 3, 300, 0, 0, 0), 14, 0), ((30, .if_icmp .ne 17, 3, 47, 0, 0, 0), 45, 0)],
  [((33, .aload_n 0, 1, 0, 0, 0, 0), 5, 0), ((34, .bipush 33, 2, 33, 0, 0, 0), 13, 0), ((36, .iconst 0, 1, 0, 0, 0, 0), 12, 0), ((37, .iconst 0, 1, 0, 0, 0, 0), 12, 0), ((38, .iload_n 2, 1, 0, 0, 0, 0), 1, 2), ((39, .invokevirtual 682, 3, 30, 5, 0, 269), 56, 0), ((42, .istore 4, 2, 0, 0, 0, 0), 6, 4), ((44, .goto 113, 3, 157, 0, 0, 0), 37, 0), ((47, .iload_n 1, 1, 0, 0, 0, 0), 1, 1)],
  [((48, .sipush 302, 3, 302, 0, 0, 0), 14, 0), ((51, .if_icmp .eq 10, 3, 61, 0, 0, 0), 44, 0), ((54, .iload_n 1, 1, 0, 0, 0, 0), 1, 1), ((55, .sipush 303, 3, 303, 0, 0, 0), 14, 0), ((58, .if_icmp .ne 28, 3, 86, 0, 0, 0), 45, 0), ((61, .aload_n 0, 1, 0, 0, 0, 0), 5, 0), ((62, .bipush 36, 2, 36, 0, 0, 0), 13, 0)],
  [((64, .iload_n 1, 1, 0, 0, 0, 0), 1, 1), ((65, .sipush 303, 3, 303, 0, 0, 0), 14, 0), ((68, .if_icmp .ne 7, 3, 75, 0, 0, 0), 45, 0), ((71, .iconst 1, 1, 1, 0, 0, 0), 12, 0), ((72, .goto 4, 3, 76, 0, 0, 0), 37, 0), ((75, .iconst 0, 1, 0, 0, 0, 0), 12, 0), ((76, .iconst 0, 1, 0, 0, 0, 0), 12, 0), ((77, .iload_n 2, 1, 0, 0, 0, 0), 1, 2), ((78, .invokevirtual 682, 3, 30, 5, 0, 269), 56, 0)],
  [((81, .istore 4, 2, 0, 0, 0, 0), 6, 4), ((83, .goto 74, 3, 157, 0, 0, 0), 37, 0), ((86, .iload_n 1, 1, 0, 0, 0, 0), 1, 1), ((87, .invokestatic 749, 3, 234, 1, 0, 818), 57, 0), ((90, .iconst 3, 1, 3, 0, 0, 0), 12, 0), ((91, .if_icmp .ne 52, 3, 143, 0, 0, 0), 45, 0), ((94, .aload_n 0, 1, 0, 0, 0, 0), 5, 0), ((95, .bipush 37, 2, 37, 0, 0, 0), 13, 0)],
  [((97, .iload_n 1, 1, 0, 0, 0, 0), 1, 1), ((98, .sipush 304, 3, 304, 0, 0, 0), 14, 0), ((101, .if_icmp .eq 10, 3, 111, 0, 0, 0), 44, 0), ((104, .iload_n 1, 1, 0, 0, 0, 0), 1, 1), ((105, .sipush 305, 3, 305, 0, 0, 0), 14, 0), ((108, .if_icmp .ne 7, 3, 115, 0, 0, 0), 45, 0), ((111, .iconst 1, 1, 1, 0, 0, 0), 12, 0)],
  [((112, .goto 4, 3, 116, 0, 0, 0), 37, 0), ((115, .iconst 0, 1, 0, 0, 0, 0), 12, 0), ((116, .iload_n 1, 1, 0, 0, 0, 0), 1, 1), ((117, .bipush 62, 2, 62, 0, 0, 0), 13, 0), ((119, .if_icmp .eq 10, 3, 129, 0, 0, 0), 44, 0), ((122, .iload_n 1, 1, 0, 0, 0, 0), 1, 1), ((123, .sipush 305, 3, 305, 0, 0, 0), 14, 0), ((126, .if_icmp .ne 7, 3, 133, 0, 0, 0), 45, 0)],
  [((129, .iconst 1, 1, 1, 0, 0, 0), 12, 0), ((130, .goto 4, 3, 134, 0, 0, 0), 37, 0), ((133, .iconst 0, 1, 0, 0, 0, 0), 12, 0), ((134, .iload_n 2, 1, 0, 0, 0, 0), 1, 2), ((135, .invokevirtual 682, 3, 30, 5, 0, 269), 56, 0), ((138, .istore 4, 2, 0, 0, 0, 0), 6, 4), ((140, .goto 17, 3, 157, 0, 0, 0), 37, 0), ((143, .aload_n 0, 1, 0, 0, 0, 0), 5, 0)],
  [((144, .bipush 31, 2, 31, 0, 0, 0), 13, 0), ((146, .iload_n 1, 1, 0, 0, 0, 0), 1, 1), ((147, .invokestatic 770, 3, 240, 1, 0, 824), 57, 0), ((150, .iconst 0, 1, 0, 0, 0, 0), 12, 0), ((151, .iload_n 2, 1, 0, 0, 0, 0), 1, 2), ((152, .invokevirtual 682, 3, 30, 5, 0, 269), 56, 0), ((155, .istore 4, 2, 0, 0, 0, 0), 6, 4), ((157, .iconst 1, 1, 1, 0, 0, 0), 12, 0), ((158, .ireturn, 1, 0, 0, 0, 0), 1000, 0)]])
def al_mX12_unary : ev_MeK := (al_yX12_unary, prog_14_method_68_code, 4, (some .boolean), [[((0, .aload_n 0, 1, 0, 0, 0, 0), 5, 0), ((1, .iconst (-1), 1, 4294967295, 0, 0, 0), 12, 0), ((2, .putfield 755, 3, 0, 64, 0, 820), 51, 0), ((5, .iconst 0, 1, 0, 0, 0, 0), 12, 0), ((6, .istore_n 3, 1, 0, 0, 0, 0), 7, 3), ((7, .iload_n 1, 1, 0, 0, 0, 0), 1, 1), ((8, .ifCond .ne 16, 3, 24, 0, 0, 0), 39, 0), ((11, .aload_n 0, 1, 0, 0, 0, 0), 5, 0), ((12, .bipush 35, 2, 35, 0, 0, 0), 13, 0), ((14, .iconst 0, 1, 0, 0, 0, 0), 12, 0), ((15, .iconst 0, 1, 0, 0, 0, 0), 12, 0)],
  [((16, .iconst 0, 1, 0, 0, 0, 0), 12, 0), ((17, .invokevirtual 682, 3, 30, 5, 0, 269), 56, 0), ((20, .istore_n 3, 1, 0, 0, 0, 0), 7, 3), ((21, .goto 44, 3, 65, 0, 0, 0), 37, 0), ((24, .iload_n 1, 1, 0, 0, 0, 0), 1, 1), ((25, .bipush 35, 2, 35, 0, 0, 0), 13, 0), ((27, .if_icmp .ne 16, 3, 43, 0, 0, 0), 45, 0), ((30, .aload_n 0, 1, 0, 0, 0, 0), 5, 0), ((31, .bipush 34, 2, 34, 0, 0, 0), 13, 0)],
  [((33, .iconst 0, 1, 0, 0, 0, 0), 12, 0), ((34, .iconst 0, 1, 0, 0, 0, 0), 12, 0), ((35, .iload_n 2, 1, 0, 0, 0, 0), 1, 2), ((36, .invokevirtual 682, 3, 30, 5, 0, 269), 56, 0), ((39, .istore_n 3, 1, 0, 0, 0, 0), 7, 3), ((40, .goto 25, 3, 65, 0, 0, 0), 37, 0), ((43, .aload_n 0, 1, 0, 0, 0, 0), 5, 0), ((44, .bipush 32, 2, 32, 0, 0, 0), 13, 0), ((46, .iload_n 1, 1, 0, 0, 0, 0), 1, 1), ((47, .bipush 45, 2, 45, 0, 0, 0), 13, 0)],
  [((49, .if_icmp .ne 8, 3, 57, 0, 0, 0), 45, 0), ((52, .bipush 13, 2, 13, 0, 0, 0), 13, 0), ((54, .goto 5, 3, 59, 0, 0, 0), 37, 0), ((57, .bipush 14, 2, 14, 0, 0, 0), 13, 0), ((59, .iconst 0, 1, 0, 0, 0, 0), 12, 0), ((60, .iload_n 2, 1, 0, 0, 0, 0), 1, 2), ((61, .invokevirtual 682, 3, 30, 5, 0, 269), 56, 0)],
  [((64, .istore_n 3, 1, 0, 0, 0, 0), 7, 3), ((65, .iconst 1, 1, 1, 0, 0, 0), 12, 0), ((66, .ireturn, 1, 0, 0, 0, 0), 1000, 0)]])
def al_mX12_chain : ev_MeK := (al_yX12_chain, prog_14_method_69_code, 1, (some .boolean), [[((0, .aload_n 0, 1, 0, 0, 0, 0), 5, 0), ((1, .getfield 36, 3, 0, 21, 20, 51), 50, 0), ((4, .aload_n 0, 1, 0, 0, 0, 0), 5, 0), ((5, .getfield 624, 3, 0, 25, 0, 260), 50, 0), ((8, .iaload, 1, 0, 0, 0, 0), 52, 0), ((9, .iconst 1, 1, 1, 0, 0, 0), 12, 0), ((10, .if_icmp .ne 50, 3, 60, 0, 0, 0), 45, 0), ((13, .aload_n 0, 1, 0, 0, 0, 0), 5, 0), ((14, .aload_n 0, 1, 0, 0, 0, 0), 5, 0), ((15, .getfield 42, 3, 0, 23, 20, 54), 50, 0)],
  [((18, .aload_n 0, 1, 0, 0, 0, 0), 5, 0), ((19, .getfield 624, 3, 0, 25, 0, 260), 50, 0), ((22, .laload, 1, 0, 0, 0, 0), 58, 0), ((23, .l2i, 1, 0, 0, 0, 0), 33, 0), ((24, .aload_n 0, 1, 0, 0, 0, 0), 5, 0), ((25, .invokevirtual 627, 3, 210, 1, 0, 801), 56, 0), ((28, .invokevirtual 740, 3, 222, 3, 0, 816), 56, 0), ((31, .aload_n 0, 1, 0, 0, 0, 0), 5, 0)],
  [((32, .bipush 8, 2, 8, 0, 0, 0), 13, 0), ((34, .iconst 0, 1, 0, 0, 0, 0), 12, 0), ((35, .iconst 0, 1, 0, 0, 0, 0), 12, 0), ((36, .iconst 0, 1, 0, 0, 0, 0), 12, 0), ((37, .invokevirtual 686, 3, 31, 5, 0, 270), 56, 0), ((40, .aload_n 0, 1, 0, 0, 0, 0), 5, 0), ((41, .getfield 618, 3, 0, 4, 0, 237), 50, 0), ((44, .ifCond .ne 14, 3, 58, 0, 0, 0), 39, 0), ((47, .aload_n 0, 1, 0, 0, 0, 0), 5, 0)],
  [((48, .invokevirtual 638, 3, 212, 1, 0, 294), 56, 0), ((51, .ifCond .eq 7, 3, 58, 0, 0, 0), 38, 0), ((54, .iconst 1, 1, 1, 0, 0, 0), 12, 0), ((55, .goto 4, 3, 59, 0, 0, 0), 37, 0), ((58, .iconst 0, 1, 0, 0, 0, 0), 12, 0), ((59, .ireturn, 1, 0, 0, 0, 0), 1000, 0), ((60, .aload_n 0, 1, 0, 0, 0, 0), 5, 0), ((61, .bipush 40, 2, 40, 0, 0, 0), 13, 0), ((63, .invokevirtual 635, 3, 36, 2, 0, 299), 56, 0)],
  [((66, .ifCond .ne 8, 3, 74, 0, 0, 0), 39, 0), ((69, .aload_n 0, 1, 0, 0, 0, 0), 5, 0), ((70, .invokevirtual 642, 3, 211, 1, 0, 319), 56, 0), ((73, .ireturn, 1, 0, 0, 0, 0), 1000, 0), ((74, .aload_n 0, 1, 0, 0, 0, 0), 5, 0), ((75, .bipush 9, 2, 9, 0, 0, 0), 13, 0), ((77, .iconst 0, 1, 0, 0, 0, 0), 12, 0), ((78, .iconst 0, 1, 0, 0, 0, 0), 12, 0), ((79, .iconst 0, 1, 0, 0, 0, 0), 12, 0)],
  [((80, .invokevirtual 686, 3, 31, 5, 0, 270), 56, 0), ((83, .aload_n 0, 1, 0, 0, 0, 0), 5, 0), ((84, .iconst 3, 1, 3, 0, 0, 0), 12, 0), ((85, .iconst 0, 1, 0, 0, 0, 0), 12, 0), ((86, .iconst 0, 1, 0, 0, 0, 0), 12, 0), ((87, .iconst 0, 1, 0, 0, 0, 0), 12, 0), ((88, .invokevirtual 686, 3, 31, 5, 0, 270), 56, 0), ((91, .aload_n 0, 1, 0, 0, 0, 0), 5, 0), ((92, .invokevirtual 638, 3, 212, 1, 0, 294), 56, 0), ((95, .ireturn, 1, 0, 0, 0, 0), 1000, 0)]])
def al_mX12_beginsGiven : ev_MeK := (al_yX12_beginsGiven, prog_14_method_70_code, 1, (some .boolean), [[((0, .aload_n 0, 1, 0, 0, 0, 0), 5, 0), ((1, .bipush 40, 2, 40, 0, 0, 0), 13, 0), ((3, .invokevirtual 635, 3, 36, 2, 0, 299), 56, 0), ((6, .ifCond .ne 25, 3, 31, 0, 0, 0), 39, 0), ((9, .aload_n 0, 1, 0, 0, 0, 0), 5, 0), ((10, .bipush 123, 2, 123, 0, 0, 0), 13, 0), ((12, .invokevirtual 635, 3, 36, 2, 0, 299), 56, 0), ((15, .ifCond .ne 16, 3, 31, 0, 0, 0), 39, 0)],
  [((18, .aload_n 0, 1, 0, 0, 0, 0), 5, 0), ((19, .getfield 36, 3, 0, 21, 20, 51), 50, 0), ((22, .aload_n 0, 1, 0, 0, 0, 0), 5, 0), ((23, .getfield 624, 3, 0, 25, 0, 260), 50, 0), ((26, .iaload, 1, 0, 0, 0, 0), 52, 0), ((27, .iconst 3, 1, 3, 0, 0, 0), 12, 0), ((28, .if_icmp .ne 7, 3, 35, 0, 0, 0), 45, 0), ((31, .iconst 1, 1, 1, 0, 0, 0), 12, 0)],
  [((32, .goto 4, 3, 36, 0, 0, 0), 37, 0), ((35, .iconst 0, 1, 0, 0, 0, 0), 12, 0), ((36, .ireturn, 1, 0, 0, 0, 0), 1000, 0)]])
def al_mX12_suffix : ev_MeK := (al_yX12_suffix, prog_14_method_71_code, 3, (some .boolean), [[((0, .aload_n 0, 1, 0, 0, 0, 0), 5, 0), ((1, .invokevirtual 690, 3, 215, 1, 0, 293), 56, 0), ((4, .istore_n 1, 1, 0, 0, 0, 0), 7, 1), ((5, .aload_n 0, 1, 0, 0, 0, 0), 5, 0), ((6, .bipush 46, 2, 46, 0, 0, 0), 13, 0), ((8, .invokevirtual 635, 3, 36, 2, 0, 299), 56, 0), ((11, .ifCond .eq 76, 3, 87, 0, 0, 0), 38, 0), ((14, .aload_n 0, 1, 0, 0, 0, 0), 5, 0), ((15, .invokevirtual 743, 3, 223, 1, 0, 817), 56, 0)],
  [((18, .aload_n 0, 1, 0, 0, 0, 0), 5, 0), ((19, .invokevirtual 638, 3, 212, 1, 0, 294), 56, 0), ((22, .ifCond .ne 5, 3, 27, 0, 0, 0), 39, 0), ((25, .iconst 0, 1, 0, 0, 0, 0), 12, 0), ((26, .ireturn, 1, 0, 0, 0, 0), 1000, 0), ((27, .aload_n 0, 1, 0, 0, 0, 0), 5, 0), ((28, .getfield 36, 3, 0, 21, 20, 51), 50, 0), ((31, .aload_n 0, 1, 0, 0, 0, 0), 5, 0)],
  [((32, .getfield 624, 3, 0, 25, 0, 260), 50, 0), ((35, .iaload, 1, 0, 0, 0, 0), 52, 0), ((36, .iconst 1, 1, 1, 0, 0, 0), 12, 0), ((37, .if_icmp .eq 8, 3, 45, 0, 0, 0), 44, 0), ((40, .aload_n 0, 1, 0, 0, 0, 0), 5, 0), ((41, .invokevirtual 642, 3, 211, 1, 0, 319), 56, 0), ((44, .ireturn, 1, 0, 0, 0, 0), 1000, 0), ((45, .aload_n 0, 1, 0, 0, 0, 0), 5, 0), ((46, .iconst 5, 1, 5, 0, 0, 0), 12, 0), ((47, .aload_n 0, 1, 0, 0, 0, 0), 5, 0)],
  [((48, .getfield 42, 3, 0, 23, 20, 54), 50, 0), ((51, .aload_n 0, 1, 0, 0, 0, 0), 5, 0), ((52, .getfield 624, 3, 0, 25, 0, 260), 50, 0), ((55, .laload, 1, 0, 0, 0, 0), 58, 0), ((56, .l2i, 1, 0, 0, 0, 0), 33, 0), ((57, .iconst 0, 1, 0, 0, 0, 0), 12, 0), ((58, .iconst 0, 1, 0, 0, 0, 0), 12, 0), ((59, .invokevirtual 682, 3, 30, 5, 0, 269), 56, 0), ((62, .istore_n 2, 1, 0, 0, 0, 0), 7, 2), ((63, .aload_n 0, 1, 0, 0, 0, 0), 5, 0)],
  [((64, .iconst 3, 1, 3, 0, 0, 0), 12, 0), ((65, .putfield 676, 3, 0, 61, 0, 806), 51, 0), ((68, .aload_n 0, 1, 0, 0, 0, 0), 5, 0), ((69, .iload_n 1, 1, 0, 0, 0, 0), 1, 1), ((70, .putfield 669, 3, 0, 63, 0, 804), 51, 0), ((73, .aload_n 0, 1, 0, 0, 0, 0), 5, 0), ((74, .bipush 8, 2, 8, 0, 0, 0), 13, 0), ((76, .iconst 0, 1, 0, 0, 0, 0), 12, 0), ((77, .iconst 0, 1, 0, 0, 0, 0), 12, 0), ((78, .iconst 0, 1, 0, 0, 0, 0), 12, 0), ((79, .invokevirtual 686, 3, 31, 5, 0, 270), 56, 0)],
  [((82, .aload_n 0, 1, 0, 0, 0, 0), 5, 0), ((83, .invokevirtual 638, 3, 212, 1, 0, 294), 56, 0), ((86, .ireturn, 1, 0, 0, 0, 0), 1000, 0), ((87, .aload_n 0, 1, 0, 0, 0, 0), 5, 0), ((88, .bipush 91, 2, 91, 0, 0, 0), 13, 0), ((90, .invokevirtual 635, 3, 36, 2, 0, 299), 56, 0), ((93, .ifCond .eq 29, 3, 122, 0, 0, 0), 38, 0)],
  [((96, .aload_n 0, 1, 0, 0, 0, 0), 5, 0), ((97, .invokevirtual 743, 3, 223, 1, 0, 817), 56, 0), ((100, .aload_n 0, 1, 0, 0, 0, 0), 5, 0), ((101, .bipush 10, 2, 10, 0, 0, 0), 13, 0), ((103, .iload_n 1, 1, 0, 0, 0, 0), 1, 1), ((104, .iconst 0, 1, 0, 0, 0, 0), 12, 0), ((105, .iconst 0, 1, 0, 0, 0, 0), 12, 0), ((106, .invokevirtual 686, 3, 31, 5, 0, 270), 56, 0), ((109, .aload_n 0, 1, 0, 0, 0, 0), 5, 0), ((110, .iconst 3, 1, 3, 0, 0, 0), 12, 0), ((111, .iconst 0, 1, 0, 0, 0, 0), 12, 0)],
  [((112, .iconst 0, 1, 0, 0, 0, 0), 12, 0), ((113, .iconst 0, 1, 0, 0, 0, 0), 12, 0), ((114, .invokevirtual 686, 3, 31, 5, 0, 270), 56, 0), ((117, .aload_n 0, 1, 0, 0, 0, 0), 5, 0), ((118, .invokevirtual 638, 3, 212, 1, 0, 294), 56, 0), ((121, .ireturn, 1, 0, 0, 0, 0), 1000, 0), ((122, .aload_n 0, 1, 0, 0, 0, 0), 5, 0), ((123, .bipush 58, 2, 58, 0, 0, 0), 13, 0), ((125, .invokevirtual 635, 3, 36, 2, 0, 299), 56, 0)],
  [((128, .ifCond .eq 120, 3, 248, 0, 0, 0), 38, 0), ((131, .aload_n 0, 1, 0, 0, 0, 0), 5, 0), ((132, .invokevirtual 743, 3, 223, 1, 0, 817), 56, 0), ((135, .aload_n 0, 1, 0, 0, 0, 0), 5, 0), ((136, .invokevirtual 638, 3, 212, 1, 0, 294), 56, 0), ((139, .ifCond .ne 5, 3, 144, 0, 0, 0), 39, 0), ((142, .iconst 0, 1, 0, 0, 0, 0), 12, 0), ((143, .ireturn, 1, 0, 0, 0, 0), 1000, 0)],
  [((144, .aload_n 0, 1, 0, 0, 0, 0), 5, 0), ((145, .getfield 36, 3, 0, 21, 20, 51), 50, 0), ((148, .aload_n 0, 1, 0, 0, 0, 0), 5, 0), ((149, .getfield 624, 3, 0, 25, 0, 260), 50, 0), ((152, .iaload, 1, 0, 0, 0, 0), 52, 0), ((153, .iconst 1, 1, 1, 0, 0, 0), 12, 0), ((154, .if_icmp .eq 8, 3, 162, 0, 0, 0), 44, 0), ((157, .aload_n 0, 1, 0, 0, 0, 0), 5, 0), ((158, .invokevirtual 642, 3, 211, 1, 0, 319), 56, 0)],
  [((161, .ireturn, 1, 0, 0, 0, 0), 1000, 0), ((162, .aload_n 0, 1, 0, 0, 0, 0), 5, 0), ((163, .bipush 45, 2, 45, 0, 0, 0), 13, 0), ((165, .iconst 0, 1, 0, 0, 0, 0), 12, 0), ((166, .iconst 0, 1, 0, 0, 0, 0), 12, 0), ((167, .iconst 0, 1, 0, 0, 0, 0), 12, 0), ((168, .invokevirtual 682, 3, 30, 5, 0, 269), 56, 0), ((171, .istore_n 2, 1, 0, 0, 0, 0), 7, 2), ((172, .aload_n 0, 1, 0, 0, 0, 0), 5, 0), ((173, .iconst 5, 1, 5, 0, 0, 0), 12, 0), ((174, .aload_n 0, 1, 0, 0, 0, 0), 5, 0), ((175, .getfield 42, 3, 0, 23, 20, 54), 50, 0)],
  [((178, .aload_n 0, 1, 0, 0, 0, 0), 5, 0), ((179, .getfield 624, 3, 0, 25, 0, 260), 50, 0), ((182, .laload, 1, 0, 0, 0, 0), 58, 0), ((183, .l2i, 1, 0, 0, 0, 0), 33, 0), ((184, .iconst 0, 1, 0, 0, 0, 0), 12, 0), ((185, .iconst 0, 1, 0, 0, 0, 0), 12, 0), ((186, .invokevirtual 682, 3, 30, 5, 0, 269), 56, 0), ((189, .istore_n 2, 1, 0, 0, 0, 0), 7, 2), ((190, .aload_n 0, 1, 0, 0, 0, 0), 5, 0), ((191, .bipush 12, 2, 12, 0, 0, 0), 13, 0)],
  [((193, .iconst 0, 1, 0, 0, 0, 0), 12, 0), ((194, .iconst 0, 1, 0, 0, 0, 0), 12, 0), ((195, .iload_n 1, 1, 0, 0, 0, 0), 1, 1), ((196, .invokevirtual 682, 3, 30, 5, 0, 269), 56, 0), ((199, .istore_n 2, 1, 0, 0, 0, 0), 7, 2), ((200, .aload_n 0, 1, 0, 0, 0, 0), 5, 0), ((201, .bipush 46, 2, 46, 0, 0, 0), 13, 0), ((203, .iconst 0, 1, 0, 0, 0, 0), 12, 0), ((204, .iconst 0, 1, 0, 0, 0, 0), 12, 0), ((205, .iconst 0, 1, 0, 0, 0, 0), 12, 0), ((206, .invokevirtual 682, 3, 30, 5, 0, 269), 56, 0)],
  [((209, .istore_n 2, 1, 0, 0, 0, 0), 7, 2), ((210, .aload_n 0, 1, 0, 0, 0, 0), 5, 0), ((211, .bipush 15, 2, 15, 0, 0, 0), 13, 0), ((213, .iconst 0, 1, 0, 0, 0, 0), 12, 0), ((214, .iconst 0, 1, 0, 0, 0, 0), 12, 0), ((215, .iconst 0, 1, 0, 0, 0, 0), 12, 0), ((216, .invokevirtual 682, 3, 30, 5, 0, 269), 56, 0), ((219, .istore_n 2, 1, 0, 0, 0, 0), 7, 2), ((220, .aload_n 0, 1, 0, 0, 0, 0), 5, 0), ((221, .invokevirtual 638, 3, 212, 1, 0, 294), 56, 0)],
  [((224, .ifCond .ne 5, 3, 229, 0, 0, 0), 39, 0), ((227, .iconst 0, 1, 0, 0, 0, 0), 12, 0), ((228, .ireturn, 1, 0, 0, 0, 0), 1000, 0), ((229, .aload_n 0, 1, 0, 0, 0, 0), 5, 0), ((230, .invokevirtual 773, 3, 244, 1, 0, 825), 56, 0), ((233, .ifCond .eq 10, 3, 243, 0, 0, 0), 38, 0), ((236, .aload_n 0, 1, 0, 0, 0, 0), 5, 0), ((237, .invokevirtual 776, 3, 246, 1, 0, 826), 56, 0)],
  [((240, .goto 7, 3, 247, 0, 0, 0), 37, 0), ((243, .aload_n 0, 1, 0, 0, 0, 0), 5, 0), ((244, .invokevirtual 642, 3, 211, 1, 0, 319), 56, 0), ((247, .ireturn, 1, 0, 0, 0, 0), 1000, 0), ((248, .aload_n 0, 1, 0, 0, 0, 0), 5, 0), ((249, .invokevirtual 773, 3, 244, 1, 0, 825), 56, 0), ((252, .ifCond .eq 22, 3, 274, 0, 0, 0), 38, 0), ((255, .aload_n 0, 1, 0, 0, 0, 0), 5, 0)],
  [((256, .invokevirtual 743, 3, 223, 1, 0, 817), 56, 0), ((259, .aload_n 0, 1, 0, 0, 0, 0), 5, 0), ((260, .bipush 14, 2, 14, 0, 0, 0), 13, 0), ((262, .iconst 0, 1, 0, 0, 0, 0), 12, 0), ((263, .iconst 0, 1, 0, 0, 0, 0), 12, 0), ((264, .iconst 0, 1, 0, 0, 0, 0), 12, 0), ((265, .invokevirtual 682, 3, 30, 5, 0, 269), 56, 0), ((268, .istore_n 2, 1, 0, 0, 0, 0), 7, 2), ((269, .aload_n 0, 1, 0, 0, 0, 0), 5, 0), ((270, .invokevirtual 776, 3, 246, 1, 0, 826), 56, 0)],
  [((273, .ireturn, 1, 0, 0, 0, 0), 1000, 0), ((274, .iconst 1, 1, 1, 0, 0, 0), 12, 0), ((275, .ireturn, 1, 0, 0, 0, 0), 1000, 0)]])
def al_mX12_given : ev_MeK := (al_yX12_given, prog_14_method_72_code, 2, (some .boolean), [[((0, .aload_n 0, 1, 0, 0, 0, 0), 5, 0), ((1, .invokevirtual 690, 3, 215, 1, 0, 293), 56, 0), ((4, .istore_n 1, 1, 0, 0, 0, 0), 7, 1), ((5, .aload_n 0, 1, 0, 0, 0, 0), 5, 0), ((6, .bipush 8, 2, 8, 0, 0, 0), 13, 0), ((8, .iconst 0, 1, 0, 0, 0, 0), 12, 0), ((9, .iconst 0, 1, 0, 0, 0, 0), 12, 0), ((10, .iconst 0, 1, 0, 0, 0, 0), 12, 0), ((11, .invokevirtual 686, 3, 31, 5, 0, 270), 56, 0), ((14, .aload_n 0, 1, 0, 0, 0, 0), 5, 0), ((15, .bipush 13, 2, 13, 0, 0, 0), 13, 0)],
  [((17, .iload_n 1, 1, 0, 0, 0, 0), 1, 1), ((18, .iconst 0, 1, 0, 0, 0, 0), 12, 0), ((19, .iconst 0, 1, 0, 0, 0, 0), 12, 0), ((20, .invokevirtual 686, 3, 31, 5, 0, 270), 56, 0), ((23, .aload_n 0, 1, 0, 0, 0, 0), 5, 0), ((24, .bipush 123, 2, 123, 0, 0, 0), 13, 0), ((26, .invokevirtual 635, 3, 36, 2, 0, 299), 56, 0), ((29, .ifCond .eq 8, 3, 37, 0, 0, 0), 38, 0)],
  [((32, .aload_n 0, 1, 0, 0, 0, 0), 5, 0), ((33, .invokevirtual 764, 3, 248, 1, 0, 822), 56, 0), ((36, .ireturn, 1, 0, 0, 0, 0), 1000, 0), ((37, .aload_n 0, 1, 0, 0, 0, 0), 5, 0), ((38, .getfield 36, 3, 0, 21, 20, 51), 50, 0), ((41, .aload_n 0, 1, 0, 0, 0, 0), 5, 0), ((42, .getfield 624, 3, 0, 25, 0, 260), 50, 0), ((45, .iaload, 1, 0, 0, 0, 0), 52, 0), ((46, .iconst 3, 1, 3, 0, 0, 0), 12, 0), ((47, .if_icmp .ne 19, 3, 66, 0, 0, 0), 45, 0)],
  [((50, .aload_n 0, 1, 0, 0, 0, 0), 5, 0), ((51, .iconst 5, 1, 5, 0, 0, 0), 12, 0), ((52, .aload_n 0, 1, 0, 0, 0, 0), 5, 0), ((53, .getfield 42, 3, 0, 23, 20, 54), 50, 0), ((56, .aload_n 0, 1, 0, 0, 0, 0), 5, 0), ((57, .getfield 624, 3, 0, 25, 0, 260), 50, 0), ((60, .laload, 1, 0, 0, 0, 0), 58, 0), ((61, .l2i, 1, 0, 0, 0, 0), 33, 0), ((62, .invokevirtual 761, 3, 237, 3, 0, 821), 56, 0)],
  [((65, .ireturn, 1, 0, 0, 0, 0), 1000, 0), ((66, .aload_n 0, 1, 0, 0, 0, 0), 5, 0), ((67, .bipush 12, 2, 12, 0, 0, 0), 13, 0), ((69, .iconst 0, 1, 0, 0, 0, 0), 12, 0), ((70, .iconst 0, 1, 0, 0, 0, 0), 12, 0), ((71, .iconst 0, 1, 0, 0, 0, 0), 12, 0), ((72, .invokevirtual 686, 3, 31, 5, 0, 270), 56, 0), ((75, .aload_n 0, 1, 0, 0, 0, 0), 5, 0), ((76, .invokevirtual 638, 3, 212, 1, 0, 294), 56, 0), ((79, .ifCond .ne 5, 3, 84, 0, 0, 0), 39, 0)],
  [((82, .iconst 0, 1, 0, 0, 0, 0), 12, 0), ((83, .ireturn, 1, 0, 0, 0, 0), 1000, 0), ((84, .aload_n 0, 1, 0, 0, 0, 0), 5, 0), ((85, .bipush 41, 2, 41, 0, 0, 0), 13, 0), ((87, .invokevirtual 635, 3, 36, 2, 0, 299), 56, 0), ((90, .ifCond .eq 5, 3, 95, 0, 0, 0), 38, 0), ((93, .iconst 1, 1, 1, 0, 0, 0), 12, 0), ((94, .ireturn, 1, 0, 0, 0, 0), 1000, 0), ((95, .aload_n 0, 1, 0, 0, 0, 0), 5, 0)],
  [((96, .invokevirtual 693, 3, 217, 1, 0, 295), 56, 0), ((99, .ifCond .ne 8, 3, 107, 0, 0, 0), 39, 0), ((102, .aload_n 0, 1, 0, 0, 0, 0), 5, 0), ((103, .invokevirtual 642, 3, 211, 1, 0, 319), 56, 0), ((106, .ireturn, 1, 0, 0, 0, 0), 1000, 0), ((107, .aload_n 0, 1, 0, 0, 0, 0), 5, 0), ((108, .bipush 14, 2, 14, 0, 0, 0), 13, 0), ((110, .iconst 0, 1, 0, 0, 0, 0), 12, 0), ((111, .iconst 0, 1, 0, 0, 0, 0), 12, 0)],
  [((112, .iconst 0, 1, 0, 0, 0, 0), 12, 0), ((113, .invokevirtual 686, 3, 31, 5, 0, 270), 56, 0), ((116, .aload_n 0, 1, 0, 0, 0, 0), 5, 0), ((117, .iconst 3, 1, 3, 0, 0, 0), 12, 0), ((118, .iconst 0, 1, 0, 0, 0, 0), 12, 0), ((119, .iconst 0, 1, 0, 0, 0, 0), 12, 0), ((120, .iconst 0, 1, 0, 0, 0, 0), 12, 0), ((121, .invokevirtual 686, 3, 31, 5, 0, 270), 56, 0), ((124, .iconst 1, 1, 1, 0, 0, 0), 12, 0), ((125, .ireturn, 1, 0, 0, 0, 0), 1000, 0)]])
def al_mX12_row : ev_MeK := (al_yX12_row, prog_14_method_73_code, 2, (some .boolean), [[((0, .aload_n 0, 1, 0, 0, 0, 0), 5, 0), ((1, .bipush 44, 2, 44, 0, 0, 0), 13, 0), ((3, .invokevirtual 635, 3, 36, 2, 0, 299), 56, 0), ((6, .ifCond .ne 22, 3, 28, 0, 0, 0), 39, 0), ((9, .aload_n 0, 1, 0, 0, 0, 0), 5, 0), ((10, .getfield 755, 3, 0, 64, 0, 820), 50, 0), ((13, .ifCond .lt 13, 3, 26, 0, 0, 0), 40, 0)],
  [((16, .aload_n 0, 1, 0, 0, 0, 0), 5, 0), ((17, .getfield 74, 3, 0, 36, 20, 65), 50, 0), ((20, .aload_n 0, 1, 0, 0, 0, 0), 5, 0), ((21, .getfield 755, 3, 0, 64, 0, 820), 50, 0), ((24, .iconst (-1), 1, 4294967295, 0, 0, 0), 12, 0), ((25, .iastore, 1, 0, 0, 0, 0), 53, 0), ((26, .iconst 1, 1, 1, 0, 0, 0), 12, 0), ((27, .ireturn, 1, 0, 0, 0, 0), 1000, 0), ((28, .aload_n 0, 1, 0, 0, 0, 0), 5, 0), ((29, .invokevirtual 638, 3, 212, 1, 0, 294), 56, 0)],
  [((32, .ifCond .ne 5, 3, 37, 0, 0, 0), 39, 0), ((35, .iconst 0, 1, 0, 0, 0, 0), 12, 0), ((36, .ireturn, 1, 0, 0, 0, 0), 1000, 0), ((37, .aload_n 0, 1, 0, 0, 0, 0), 5, 0), ((38, .invokevirtual 693, 3, 217, 1, 0, 295), 56, 0), ((41, .ifCond .ne 8, 3, 49, 0, 0, 0), 39, 0), ((44, .aload_n 0, 1, 0, 0, 0, 0), 5, 0), ((45, .invokevirtual 642, 3, 211, 1, 0, 319), 56, 0)],
  [((48, .ireturn, 1, 0, 0, 0, 0), 1000, 0), ((49, .iload_n 1, 1, 0, 0, 0, 0), 1, 1), ((50, .iconst 1, 1, 1, 0, 0, 0), 12, 0), ((51, .iadd, 1, 0, 0, 0, 0), 16, 0), ((52, .bipush 15, 2, 15, 0, 0, 0), 13, 0), ((54, .if_icmp .ne 13, 3, 67, 0, 0, 0), 45, 0), ((57, .aload_n 0, 1, 0, 0, 0, 0), 5, 0), ((58, .iconst 3, 1, 3, 0, 0, 0), 12, 0), ((59, .aload_n 0, 1, 0, 0, 0, 0), 5, 0), ((60, .invokevirtual 627, 3, 210, 1, 0, 801), 56, 0), ((63, .invokevirtual 631, 3, 209, 3, 0, 802), 56, 0)],
  [((66, .ireturn, 1, 0, 0, 0, 0), 1000, 0), ((67, .aload_n 0, 1, 0, 0, 0, 0), 5, 0), ((68, .bipush 14, 2, 14, 0, 0, 0), 13, 0), ((70, .iload_n 1, 1, 0, 0, 0, 0), 1, 1), ((71, .iconst 1, 1, 1, 0, 0, 0), 12, 0), ((72, .iadd, 1, 0, 0, 0, 0), 16, 0), ((73, .iconst 0, 1, 0, 0, 0, 0), 12, 0), ((74, .iconst 0, 1, 0, 0, 0, 0), 12, 0), ((75, .invokevirtual 686, 3, 31, 5, 0, 270), 56, 0), ((78, .aload_n 0, 1, 0, 0, 0, 0), 5, 0), ((79, .iconst 3, 1, 3, 0, 0, 0), 12, 0)],
  [((80, .iconst 0, 1, 0, 0, 0, 0), 12, 0), ((81, .iconst 0, 1, 0, 0, 0, 0), 12, 0), ((82, .iconst 0, 1, 0, 0, 0, 0), 12, 0), ((83, .invokevirtual 686, 3, 31, 5, 0, 270), 56, 0), ((86, .iconst 1, 1, 1, 0, 0, 0), 12, 0), ((87, .ireturn, 1, 0, 0, 0, 0), 1000, 0)]])
def al_mX12_table : ev_MeK := (al_yX12_table, prog_14_method_74_code, 2, (some .boolean), [[((0, .aload_n 0, 1, 0, 0, 0, 0), 5, 0), ((1, .bipush 26, 2, 26, 0, 0, 0), 13, 0), ((3, .iconst 0, 1, 0, 0, 0, 0), 12, 0), ((4, .iconst 0, 1, 0, 0, 0, 0), 12, 0), ((5, .iconst 0, 1, 0, 0, 0, 0), 12, 0), ((6, .invokevirtual 682, 3, 30, 5, 0, 269), 56, 0), ((9, .istore_n 1, 1, 0, 0, 0, 0), 7, 1), ((10, .aload_n 0, 1, 0, 0, 0, 0), 5, 0), ((11, .bipush 15, 2, 15, 0, 0, 0), 13, 0), ((13, .iconst 1, 1, 1, 0, 0, 0), 12, 0), ((14, .iconst 0, 1, 0, 0, 0, 0), 12, 0), ((15, .iconst 0, 1, 0, 0, 0, 0), 12, 0)],
  [((16, .invokevirtual 686, 3, 31, 5, 0, 270), 56, 0), ((19, .aload_n 0, 1, 0, 0, 0, 0), 5, 0), ((20, .invokevirtual 638, 3, 212, 1, 0, 294), 56, 0), ((23, .ireturn, 1, 0, 0, 0, 0), 1000, 0)]])
def al_mX12_fields : ev_MeK := (al_yX12_fields, prog_14_method_75_code, 7, (some .boolean), [[((0, .aload_n 0, 1, 0, 0, 0, 0), 5, 0), ((1, .bipush 125, 2, 125, 0, 0, 0), 13, 0), ((3, .invokevirtual 635, 3, 36, 2, 0, 299), 56, 0), ((6, .ifCond .eq 13, 3, 19, 0, 0, 0), 38, 0), ((9, .aload_n 0, 1, 0, 0, 0, 0), 5, 0), ((10, .iconst (-1), 1, 4294967295, 0, 0, 0), 12, 0), ((11, .putfield 755, 3, 0, 64, 0, 820), 51, 0), ((14, .aload_n 0, 1, 0, 0, 0, 0), 5, 0), ((15, .invokevirtual 638, 3, 212, 1, 0, 294), 56, 0)],
  [((18, .ireturn, 1, 0, 0, 0, 0), 1000, 0), ((19, .aload_n 0, 1, 0, 0, 0, 0), 5, 0), ((20, .bipush 91, 2, 91, 0, 0, 0), 13, 0), ((22, .invokevirtual 635, 3, 36, 2, 0, 299), 56, 0), ((25, .istore_n 3, 1, 0, 0, 0, 0), 7, 3), ((26, .iload_n 3, 1, 0, 0, 0, 0), 1, 3), ((27, .ifCond .ne 15, 3, 42, 0, 0, 0), 39, 0), ((30, .aload_n 0, 1, 0, 0, 0, 0), 5, 0), ((31, .invokevirtual 693, 3, 217, 1, 0, 295), 56, 0)],
  [((34, .ifCond .ne 8, 3, 42, 0, 0, 0), 39, 0), ((37, .aload_n 0, 1, 0, 0, 0, 0), 5, 0), ((38, .invokevirtual 642, 3, 211, 1, 0, 319), 56, 0), ((41, .ireturn, 1, 0, 0, 0, 0), 1000, 0), ((42, .iload_n 2, 1, 0, 0, 0, 0), 1, 2), ((43, .bipush 30, 2, 30, 0, 0, 0), 13, 0), ((45, .if_icmp .ne 13, 3, 58, 0, 0, 0), 45, 0)],
  [((48, .aload_n 0, 1, 0, 0, 0, 0), 5, 0), ((49, .iconst 3, 1, 3, 0, 0, 0), 12, 0), ((50, .aload_n 0, 1, 0, 0, 0, 0), 5, 0), ((51, .invokevirtual 627, 3, 210, 1, 0, 801), 56, 0), ((54, .invokevirtual 631, 3, 209, 3, 0, 802), 56, 0), ((57, .ireturn, 1, 0, 0, 0, 0), 1000, 0), ((58, .aload_n 0, 1, 0, 0, 0, 0), 5, 0), ((59, .invokevirtual 699, 3, 216, 1, 0, 297), 56, 0), ((62, .ifCond .ne 5, 3, 67, 0, 0, 0), 39, 0)],
  [((65, .iconst 0, 1, 0, 0, 0, 0), 12, 0), ((66, .ireturn, 1, 0, 0, 0, 0), 1000, 0), ((67, .aload_n 0, 1, 0, 0, 0, 0), 5, 0), ((68, .invokevirtual 690, 3, 215, 1, 0, 293), 56, 0), ((71, .istore 4, 2, 0, 0, 0, 0), 6, 4), ((73, .iload_n 3, 1, 0, 0, 0, 0), 1, 3), ((74, .ifCond .eq 26, 3, 100, 0, 0, 0), 38, 0), ((77, .aload_n 0, 1, 0, 0, 0, 0), 5, 0), ((78, .bipush 16, 2, 16, 0, 0, 0), 13, 0)],
  [((80, .iload 4, 2, 0, 0, 0, 0), 0, 4), ((82, .iload_n 1, 1, 0, 0, 0, 0), 1, 1), ((83, .iload_n 2, 1, 0, 0, 0, 0), 1, 2), ((84, .invokevirtual 686, 3, 31, 5, 0, 270), 56, 0), ((87, .aload_n 0, 1, 0, 0, 0, 0), 5, 0), ((88, .iconst 3, 1, 3, 0, 0, 0), 12, 0), ((89, .iconst 0, 1, 0, 0, 0, 0), 12, 0), ((90, .iconst 0, 1, 0, 0, 0, 0), 12, 0), ((91, .iconst 0, 1, 0, 0, 0, 0), 12, 0), ((92, .invokevirtual 686, 3, 31, 5, 0, 270), 56, 0), ((95, .aload_n 0, 1, 0, 0, 0, 0), 5, 0)],
  [((96, .invokevirtual 638, 3, 212, 1, 0, 294), 56, 0), ((99, .ireturn, 1, 0, 0, 0, 0), 1000, 0), ((100, .aload_n 0, 1, 0, 0, 0, 0), 5, 0), ((101, .getfield 36, 3, 0, 21, 20, 51), 50, 0), ((104, .aload_n 0, 1, 0, 0, 0, 0), 5, 0), ((105, .getfield 624, 3, 0, 25, 0, 260), 50, 0), ((108, .iaload, 1, 0, 0, 0, 0), 52, 0), ((109, .iconst 1, 1, 1, 0, 0, 0), 12, 0), ((110, .if_icmp .ne 50, 3, 160, 0, 0, 0), 45, 0)],
  [((113, .aload_n 0, 1, 0, 0, 0, 0), 5, 0), ((114, .getfield 624, 3, 0, 25, 0, 260), 50, 0), ((117, .sipush 1500, 3, 1500, 0, 0, 0), 14, 0), ((120, .if_icmp .ge 40, 3, 160, 0, 0, 0), 47, 0), ((123, .aload_n 0, 1, 0, 0, 0, 0), 5, 0), ((124, .getfield 36, 3, 0, 21, 20, 51), 50, 0), ((127, .aload_n 0, 1, 0, 0, 0, 0), 5, 0)],
  [((128, .getfield 624, 3, 0, 25, 0, 260), 50, 0), ((131, .iconst 1, 1, 1, 0, 0, 0), 12, 0), ((132, .iadd, 1, 0, 0, 0, 0), 16, 0), ((133, .iaload, 1, 0, 0, 0, 0), 52, 0), ((134, .iconst 5, 1, 5, 0, 0, 0), 12, 0), ((135, .if_icmp .ne 25, 3, 160, 0, 0, 0), 45, 0), ((138, .aload_n 0, 1, 0, 0, 0, 0), 5, 0), ((139, .getfield 42, 3, 0, 23, 20, 54), 50, 0), ((142, .aload_n 0, 1, 0, 0, 0, 0), 5, 0), ((143, .getfield 624, 3, 0, 25, 0, 260), 50, 0)],
  [((146, .iconst 1, 1, 1, 0, 0, 0), 12, 0), ((147, .iadd, 1, 0, 0, 0, 0), 16, 0), ((148, .laload, 1, 0, 0, 0, 0), 58, 0), ((149, .ldc2_w 779, 3, 61, 0, 0, 827), 58, 0), ((152, .lcmp, 1, 0, 0, 0, 0), 32, 0), ((153, .ifCond .ne 7, 3, 160, 0, 0, 0), 39, 0), ((156, .iconst 1, 1, 1, 0, 0, 0), 12, 0), ((157, .goto 4, 3, 161, 0, 0, 0), 37, 0)],
  [((160, .iconst 0, 1, 0, 0, 0, 0), 12, 0), ((161, .istore 5, 2, 0, 0, 0, 0), 6, 5), ((163, .iload 5, 2, 0, 0, 0, 0), 0, 5), ((165, .ifCond .eq 59, 3, 224, 0, 0, 0), 38, 0), ((168, .aload_n 0, 1, 0, 0, 0, 0), 5, 0), ((169, .iconst 5, 1, 5, 0, 0, 0), 12, 0), ((170, .aload_n 0, 1, 0, 0, 0, 0), 5, 0), ((171, .getfield 42, 3, 0, 23, 20, 54), 50, 0), ((174, .aload_n 0, 1, 0, 0, 0, 0), 5, 0), ((175, .getfield 624, 3, 0, 25, 0, 260), 50, 0)],
  [((178, .laload, 1, 0, 0, 0, 0), 58, 0), ((179, .l2i, 1, 0, 0, 0, 0), 33, 0), ((180, .iconst 0, 1, 0, 0, 0, 0), 12, 0), ((181, .iconst 0, 1, 0, 0, 0, 0), 12, 0), ((182, .invokevirtual 682, 3, 30, 5, 0, 269), 56, 0), ((185, .istore 6, 2, 0, 0, 0, 0), 6, 6), ((187, .aload_n 0, 1, 0, 0, 0, 0), 5, 0), ((188, .bipush 17, 2, 17, 0, 0, 0), 13, 0), ((190, .iconst 0, 1, 0, 0, 0, 0), 12, 0), ((191, .iload_n 1, 1, 0, 0, 0, 0), 1, 1)],
  [((192, .iload_n 2, 1, 0, 0, 0, 0), 1, 2), ((193, .invokevirtual 686, 3, 31, 5, 0, 270), 56, 0), ((196, .aload_n 0, 1, 0, 0, 0, 0), 5, 0), ((197, .iconst 3, 1, 3, 0, 0, 0), 12, 0), ((198, .iconst 0, 1, 0, 0, 0, 0), 12, 0), ((199, .iconst 0, 1, 0, 0, 0, 0), 12, 0), ((200, .iconst 0, 1, 0, 0, 0, 0), 12, 0), ((201, .invokevirtual 686, 3, 31, 5, 0, 270), 56, 0), ((204, .aload_n 0, 1, 0, 0, 0, 0), 5, 0), ((205, .invokevirtual 638, 3, 212, 1, 0, 294), 56, 0)],
  [((208, .ifCond .eq 14, 3, 222, 0, 0, 0), 38, 0), ((211, .aload_n 0, 1, 0, 0, 0, 0), 5, 0), ((212, .invokevirtual 638, 3, 212, 1, 0, 294), 56, 0), ((215, .ifCond .eq 7, 3, 222, 0, 0, 0), 38, 0), ((218, .iconst 1, 1, 1, 0, 0, 0), 12, 0), ((219, .goto 4, 3, 223, 0, 0, 0), 37, 0), ((222, .iconst 0, 1, 0, 0, 0, 0), 12, 0), ((223, .ireturn, 1, 0, 0, 0, 0), 1000, 0)],
  [((224, .aload_n 0, 1, 0, 0, 0, 0), 5, 0), ((225, .bipush 14, 2, 14, 0, 0, 0), 13, 0), ((227, .iconst 0, 1, 0, 0, 0, 0), 12, 0), ((228, .iconst 0, 1, 0, 0, 0, 0), 12, 0), ((229, .iconst 0, 1, 0, 0, 0, 0), 12, 0), ((230, .invokevirtual 682, 3, 30, 5, 0, 269), 56, 0), ((233, .istore 6, 2, 0, 0, 0, 0), 6, 6), ((235, .aload_n 0, 1, 0, 0, 0, 0), 5, 0), ((236, .bipush 18, 2, 18, 0, 0, 0), 13, 0), ((238, .iload_n 1, 1, 0, 0, 0, 0), 1, 1), ((239, .iload_n 2, 1, 0, 0, 0, 0), 1, 2)],
  [((240, .iconst 0, 1, 0, 0, 0, 0), 12, 0), ((241, .invokevirtual 686, 3, 31, 5, 0, 270), 56, 0), ((244, .aload_n 0, 1, 0, 0, 0, 0), 5, 0), ((245, .iconst 3, 1, 3, 0, 0, 0), 12, 0), ((246, .iconst 0, 1, 0, 0, 0, 0), 12, 0), ((247, .iconst 0, 1, 0, 0, 0, 0), 12, 0), ((248, .iconst 0, 1, 0, 0, 0, 0), 12, 0), ((249, .invokevirtual 686, 3, 31, 5, 0, 270), 56, 0), ((252, .iconst 1, 1, 1, 0, 0, 0), 12, 0), ((253, .ireturn, 1, 0, 0, 0, 0), 1000, 0)]])
def al_mX12_isParting : ev_MeK := (al_yX12_isParting, prog_14_method_76_code, 1, (some .boolean), [[((0, .aload_n 0, 1, 0, 0, 0, 0), 5, 0), ((1, .bipush 44, 2, 44, 0, 0, 0), 13, 0), ((3, .invokevirtual 635, 3, 36, 2, 0, 299), 56, 0), ((6, .ifCond .ne 12, 3, 18, 0, 0, 0), 39, 0), ((9, .aload_n 0, 1, 0, 0, 0, 0), 5, 0), ((10, .bipush 59, 2, 59, 0, 0, 0), 13, 0), ((12, .invokevirtual 635, 3, 36, 2, 0, 299), 56, 0), ((15, .ifCond .eq 7, 3, 22, 0, 0, 0), 38, 0)],
  [((18, .iconst 1, 1, 1, 0, 0, 0), 12, 0), ((19, .goto 4, 3, 23, 0, 0, 0), 37, 0), ((22, .iconst 0, 1, 0, 0, 0, 0), 12, 0), ((23, .ireturn, 1, 0, 0, 0, 0), 1000, 0)]])
def al_mX12_keyed : ev_MeK := (al_yX12_keyed, prog_14_method_77_code, 5, (some .boolean), [[((0, .aload_n 0, 1, 0, 0, 0, 0), 5, 0), ((1, .dup, 1, 0, 0, 0, 0), 35, 0), ((2, .getfield 657, 3, 0, 47, 0, 262), 50, 0), ((5, .iconst 1, 1, 1, 0, 0, 0), 12, 0), ((6, .isub, 1, 0, 0, 0, 0), 17, 0), ((7, .putfield 657, 3, 0, 47, 0, 262), 51, 0), ((10, .aload_n 0, 1, 0, 0, 0, 0), 5, 0), ((11, .bipush 27, 2, 27, 0, 0, 0), 13, 0), ((13, .iconst 0, 1, 0, 0, 0, 0), 12, 0), ((14, .iconst 0, 1, 0, 0, 0, 0), 12, 0), ((15, .iload_n 1, 1, 0, 0, 0, 0), 1, 1)],
  [((16, .invokevirtual 682, 3, 30, 5, 0, 269), 56, 0), ((19, .istore 4, 2, 0, 0, 0, 0), 6, 4), ((21, .aload_n 0, 1, 0, 0, 0, 0), 5, 0), ((22, .bipush 15, 2, 15, 0, 0, 0), 13, 0), ((24, .iload_n 2, 1, 0, 0, 0, 0), 1, 2), ((25, .iload_n 3, 1, 0, 0, 0, 0), 1, 3), ((26, .iconst 1, 1, 1, 0, 0, 0), 12, 0), ((27, .iadd, 1, 0, 0, 0, 0), 16, 0), ((28, .iconst 0, 1, 0, 0, 0, 0), 12, 0), ((29, .invokevirtual 686, 3, 31, 5, 0, 270), 56, 0)],
  [((32, .aload_n 0, 1, 0, 0, 0, 0), 5, 0), ((33, .invokevirtual 781, 3, 250, 1, 0, 828), 56, 0), ((36, .ifCond .eq 10, 3, 46, 0, 0, 0), 38, 0), ((39, .aload_n 0, 1, 0, 0, 0, 0), 5, 0), ((40, .invokevirtual 638, 3, 212, 1, 0, 294), 56, 0), ((43, .goto 24, 3, 67, 0, 0, 0), 37, 0), ((46, .aload_n 0, 1, 0, 0, 0, 0), 5, 0), ((47, .bipush 125, 2, 125, 0, 0, 0), 13, 0)],
  [((49, .invokevirtual 635, 3, 36, 2, 0, 299), 56, 0), ((52, .ifCond .ne 10, 3, 62, 0, 0, 0), 39, 0), ((55, .aload_n 0, 1, 0, 0, 0, 0), 5, 0), ((56, .invokevirtual 642, 3, 211, 1, 0, 319), 56, 0), ((59, .ifCond .eq 7, 3, 66, 0, 0, 0), 38, 0), ((62, .iconst 1, 1, 1, 0, 0, 0), 12, 0), ((63, .goto 4, 3, 67, 0, 0, 0), 37, 0)],
  [((66, .iconst 0, 1, 0, 0, 0, 0), 12, 0), ((67, .ireturn, 1, 0, 0, 0, 0), 1000, 0)]])
def al_mX12_positional : ev_MeK := (al_yX12_positional, prog_14_method_78_code, 6, (some .boolean), [[((0, .aload_n 0, 1, 0, 0, 0, 0), 5, 0), ((1, .dup, 1, 0, 0, 0, 0), 35, 0), ((2, .getfield 657, 3, 0, 47, 0, 262), 50, 0), ((5, .iconst 1, 1, 1, 0, 0, 0), 12, 0), ((6, .isub, 1, 0, 0, 0, 0), 17, 0), ((7, .putfield 657, 3, 0, 47, 0, 262), 51, 0), ((10, .aload_n 0, 1, 0, 0, 0, 0), 5, 0), ((11, .getfield 755, 3, 0, 64, 0, 820), 50, 0), ((14, .istore_n 3, 1, 0, 0, 0, 0), 7, 3), ((15, .aload_n 0, 1, 0, 0, 0, 0), 5, 0)],
  [((16, .invokevirtual 781, 3, 250, 1, 0, 828), 56, 0), ((19, .istore 4, 2, 0, 0, 0, 0), 6, 4), ((21, .iload 4, 2, 0, 0, 0, 0), 0, 4), ((23, .ifCond .eq 12, 3, 35, 0, 0, 0), 38, 0), ((26, .aload_n 0, 1, 0, 0, 0, 0), 5, 0), ((27, .invokevirtual 638, 3, 212, 1, 0, 294), 56, 0), ((30, .ifCond .ne 5, 3, 35, 0, 0, 0), 39, 0)],
  [((33, .iconst 0, 1, 0, 0, 0, 0), 12, 0), ((34, .ireturn, 1, 0, 0, 0, 0), 1000, 0), ((35, .iload 4, 2, 0, 0, 0, 0), 0, 4), ((37, .ifCond .ne 17, 3, 54, 0, 0, 0), 39, 0), ((40, .aload_n 0, 1, 0, 0, 0, 0), 5, 0), ((41, .bipush 125, 2, 125, 0, 0, 0), 13, 0), ((43, .invokevirtual 635, 3, 36, 2, 0, 299), 56, 0), ((46, .ifCond .ne 8, 3, 54, 0, 0, 0), 39, 0)],
  [((49, .aload_n 0, 1, 0, 0, 0, 0), 5, 0), ((50, .invokevirtual 642, 3, 211, 1, 0, 319), 56, 0), ((53, .ireturn, 1, 0, 0, 0, 0), 1000, 0), ((54, .iconst 0, 1, 0, 0, 0, 0), 12, 0), ((55, .istore 5, 2, 0, 0, 0, 0), 6, 5), ((57, .aload_n 0, 1, 0, 0, 0, 0), 5, 0), ((58, .bipush 125, 2, 125, 0, 0, 0), 13, 0), ((60, .invokevirtual 635, 3, 36, 2, 0, 299), 56, 0), ((63, .ifCond .eq 28, 3, 91, 0, 0, 0), 38, 0)],
  [((66, .iload_n 3, 1, 0, 0, 0, 0), 1, 3), ((67, .ifCond .lt 24, 3, 91, 0, 0, 0), 40, 0), ((70, .aload_n 0, 1, 0, 0, 0, 0), 5, 0), ((71, .getfield 74, 3, 0, 36, 20, 65), 50, 0), ((74, .iload_n 3, 1, 0, 0, 0, 0), 1, 3), ((75, .iconst (-1), 1, 4294967295, 0, 0, 0), 12, 0), ((76, .iastore, 1, 0, 0, 0, 0), 53, 0), ((77, .aload_n 0, 1, 0, 0, 0, 0), 5, 0), ((78, .bipush 29, 2, 29, 0, 0, 0), 13, 0)],
  [((80, .iload_n 1, 1, 0, 0, 0, 0), 1, 1), ((81, .iconst 0, 1, 0, 0, 0, 0), 12, 0), ((82, .iconst 0, 1, 0, 0, 0, 0), 12, 0), ((83, .invokevirtual 682, 3, 30, 5, 0, 269), 56, 0), ((86, .istore 5, 2, 0, 0, 0, 0), 6, 5), ((88, .goto 14, 3, 102, 0, 0, 0), 37, 0), ((91, .aload_n 0, 1, 0, 0, 0, 0), 5, 0), ((92, .bipush 28, 2, 28, 0, 0, 0), 13, 0), ((94, .iload_n 1, 1, 0, 0, 0, 0), 1, 1), ((95, .iconst 0, 1, 0, 0, 0, 0), 12, 0)],
  [((96, .iconst 0, 1, 0, 0, 0, 0), 12, 0), ((97, .invokevirtual 682, 3, 30, 5, 0, 269), 56, 0), ((100, .istore 5, 2, 0, 0, 0, 0), 6, 5), ((102, .aload_n 0, 1, 0, 0, 0, 0), 5, 0), ((103, .bipush 15, 2, 15, 0, 0, 0), 13, 0), ((105, .iload_n 1, 1, 0, 0, 0, 0), 1, 1), ((106, .iconst 1, 1, 1, 0, 0, 0), 12, 0), ((107, .iadd, 1, 0, 0, 0, 0), 16, 0), ((108, .iload_n 2, 1, 0, 0, 0, 0), 1, 2), ((109, .iconst 1, 1, 1, 0, 0, 0), 12, 0), ((110, .iadd, 1, 0, 0, 0, 0), 16, 0), ((111, .iconst 0, 1, 0, 0, 0, 0), 12, 0)],
  [((112, .invokevirtual 686, 3, 31, 5, 0, 270), 56, 0), ((115, .iconst 1, 1, 1, 0, 0, 0), 12, 0), ((116, .ireturn, 1, 0, 0, 0, 0), 1000, 0)]])
def al_mX12_body : ev_MeK := (al_yX12_body, prog_14_method_79_code, 5, (some .boolean), [[((0, .aload_n 0, 1, 0, 0, 0, 0), 5, 0), ((1, .bipush 40, 2, 40, 0, 0, 0), 13, 0), ((3, .invokevirtual 635, 3, 36, 2, 0, 299), 56, 0), ((6, .ifCond .ne 8, 3, 14, 0, 0, 0), 39, 0), ((9, .aload_n 0, 1, 0, 0, 0, 0), 5, 0), ((10, .invokevirtual 642, 3, 211, 1, 0, 319), 56, 0), ((13, .ireturn, 1, 0, 0, 0, 0), 1000, 0), ((14, .aload_n 0, 1, 0, 0, 0, 0), 5, 0), ((15, .getfield 784, 3, 0, 34, 0, 246), 50, 0)],
  [((18, .bipush 50, 2, 50, 0, 0, 0), 13, 0), ((20, .if_icmp .ne 13, 3, 33, 0, 0, 0), 45, 0), ((23, .aload_n 0, 1, 0, 0, 0, 0), 5, 0), ((24, .iconst 3, 1, 3, 0, 0, 0), 12, 0), ((25, .aload_n 0, 1, 0, 0, 0, 0), 5, 0), ((26, .invokevirtual 627, 3, 210, 1, 0, 801), 56, 0), ((29, .invokevirtual 631, 3, 209, 3, 0, 802), 56, 0)],
  [((32, .ireturn, 1, 0, 0, 0, 0), 1000, 0), ((33, .aload_n 0, 1, 0, 0, 0, 0), 5, 0), ((34, .bipush 21, 2, 21, 0, 0, 0), 13, 0), ((36, .iconst 0, 1, 0, 0, 0, 0), 12, 0), ((37, .iconst 0, 1, 0, 0, 0, 0), 12, 0), ((38, .iconst 0, 1, 0, 0, 0, 0), 12, 0), ((39, .invokevirtual 682, 3, 30, 5, 0, 269), 56, 0), ((42, .istore_n 2, 1, 0, 0, 0, 0), 7, 2), ((43, .aload_n 0, 1, 0, 0, 0, 0), 5, 0), ((44, .getfield 784, 3, 0, 34, 0, 246), 50, 0), ((47, .istore_n 3, 1, 0, 0, 0, 0), 7, 3)],
  [((48, .aload_n 0, 1, 0, 0, 0, 0), 5, 0), ((49, .dup, 1, 0, 0, 0, 0), 35, 0), ((50, .getfield 784, 3, 0, 34, 0, 246), 50, 0), ((53, .iconst 1, 1, 1, 0, 0, 0), 12, 0), ((54, .iadd, 1, 0, 0, 0, 0), 16, 0), ((55, .putfield 784, 3, 0, 34, 0, 246), 51, 0), ((58, .aload_n 0, 1, 0, 0, 0, 0), 5, 0), ((59, .dup, 1, 0, 0, 0, 0), 35, 0), ((60, .getfield 660, 3, 0, 53, 0, 264), 50, 0), ((63, .iconst 1, 1, 1, 0, 0, 0), 12, 0)],
  [((64, .iadd, 1, 0, 0, 0, 0), 16, 0), ((65, .putfield 660, 3, 0, 53, 0, 264), 51, 0), ((68, .aload_n 0, 1, 0, 0, 0, 0), 5, 0), ((69, .getfield 104, 3, 0, 51, 20, 75), 50, 0), ((72, .aload_n 0, 1, 0, 0, 0, 0), 5, 0), ((73, .getfield 660, 3, 0, 53, 0, 264), 50, 0), ((76, .aload_n 0, 1, 0, 0, 0, 0), 5, 0), ((77, .getfield 666, 3, 0, 50, 0, 263), 50, 0)],
  [((80, .iastore, 1, 0, 0, 0, 0), 53, 0), ((81, .aload_n 0, 1, 0, 0, 0, 0), 5, 0), ((82, .getfield 107, 3, 0, 52, 20, 76), 50, 0), ((85, .aload_n 0, 1, 0, 0, 0, 0), 5, 0), ((86, .getfield 660, 3, 0, 53, 0, 264), 50, 0), ((89, .iload_n 3, 1, 0, 0, 0, 0), 1, 3), ((90, .iastore, 1, 0, 0, 0, 0), 53, 0), ((91, .aload_n 0, 1, 0, 0, 0, 0), 5, 0), ((92, .getfield 52, 3, 0, 28, 20, 57), 50, 0), ((95, .iload_n 3, 1, 0, 0, 0, 0), 1, 3)],
  [((96, .iconst 0, 1, 0, 0, 0, 0), 12, 0), ((97, .iastore, 1, 0, 0, 0, 0), 53, 0), ((98, .aload_n 0, 1, 0, 0, 0, 0), 5, 0), ((99, .getfield 55, 3, 0, 29, 20, 58), 50, 0), ((102, .iload_n 3, 1, 0, 0, 0, 0), 1, 3), ((103, .iconst 0, 1, 0, 0, 0, 0), 12, 0), ((104, .iastore, 1, 0, 0, 0, 0), 53, 0), ((105, .aload_n 0, 1, 0, 0, 0, 0), 5, 0), ((106, .getfield 58, 3, 0, 30, 20, 60), 50, 0), ((109, .iload_n 3, 1, 0, 0, 0, 0), 1, 3), ((110, .iconst 0, 1, 0, 0, 0, 0), 12, 0), ((111, .bastore, 1, 0, 0, 0, 0), 55, 0)],
  [((112, .aload_n 0, 1, 0, 0, 0, 0), 5, 0), ((113, .getfield 62, 3, 0, 31, 20, 61), 50, 0), ((116, .iload_n 3, 1, 0, 0, 0, 0), 1, 3), ((117, .aload_n 0, 1, 0, 0, 0, 0), 5, 0), ((118, .invokevirtual 690, 3, 215, 1, 0, 293), 56, 0), ((121, .iastore, 1, 0, 0, 0, 0), 53, 0), ((122, .aload_n 0, 1, 0, 0, 0, 0), 5, 0), ((123, .getfield 46, 3, 0, 26, 20, 55), 50, 0), ((126, .iload_n 3, 1, 0, 0, 0, 0), 1, 3), ((127, .aload_n 0, 1, 0, 0, 0, 0), 5, 0)],
  [((128, .getfield 651, 3, 0, 41, 0, 267), 50, 0), ((131, .iastore, 1, 0, 0, 0, 0), 53, 0), ((132, .aload_n 0, 1, 0, 0, 0, 0), 5, 0), ((133, .iconst 0, 1, 0, 0, 0, 0), 12, 0), ((134, .iconst 0, 1, 0, 0, 0, 0), 12, 0), ((135, .iconst 0, 1, 0, 0, 0, 0), 12, 0), ((136, .iconst 0, 1, 0, 0, 0, 0), 12, 0), ((137, .invokevirtual 682, 3, 30, 5, 0, 269), 56, 0), ((140, .istore 4, 2, 0, 0, 0, 0), 6, 4), ((142, .iload_n 1, 1, 0, 0, 0, 0), 1, 1), ((143, .ifCond .le 32, 3, 175, 0, 0, 0), 43, 0)],
  [((146, .aload_n 0, 1, 0, 0, 0, 0), 5, 0), ((147, .iconst 0, 1, 0, 0, 0, 0), 12, 0), ((148, .putfield 338, 3, 0, 20, 0, 230), 51, 0), ((151, .aload_n 0, 1, 0, 0, 0, 0), 5, 0), ((152, .ldc2_w 787, 3, 1936026726, 0, 0, 829), 58, 0), ((155, .invokevirtual 345, 3, 21, 2, 0, 231), 56, 0), ((158, .aload_n 0, 1, 0, 0, 0, 0), 5, 0), ((159, .aload_n 0, 1, 0, 0, 0, 0), 5, 0)],
  [((160, .iconst 0, 1, 0, 0, 0, 0), 12, 0), ((161, .invokevirtual 349, 3, 22, 2, 0, 232), 56, 0), ((164, .aload_n 0, 1, 0, 0, 0, 0), 5, 0), ((165, .aload_n 0, 1, 0, 0, 0, 0), 5, 0), ((166, .invokevirtual 627, 3, 210, 1, 0, 801), 56, 0), ((169, .invokevirtual 729, 3, 219, 2, 0, 814), 56, 0), ((172, .invokevirtual 732, 3, 220, 3, 0, 815), 56, 0), ((175, .aload_n 0, 1, 0, 0, 0, 0), 5, 0)],
  [((176, .invokevirtual 638, 3, 212, 1, 0, 294), 56, 0), ((179, .ifCond .eq 11, 3, 190, 0, 0, 0), 38, 0), ((182, .aload_n 0, 1, 0, 0, 0, 0), 5, 0), ((183, .iload_n 3, 1, 0, 0, 0, 0), 1, 3), ((184, .invokevirtual 789, 3, 254, 2, 0, 830), 56, 0), ((187, .ifCond .ne 5, 3, 192, 0, 0, 0), 39, 0), ((190, .iconst 0, 1, 0, 0, 0, 0), 12, 0), ((191, .ireturn, 1, 0, 0, 0, 0), 1000, 0)],
  [((192, .aload_n 0, 1, 0, 0, 0, 0), 5, 0), ((193, .getfield 49, 3, 0, 27, 20, 56), 50, 0), ((196, .iload_n 3, 1, 0, 0, 0, 0), 1, 3), ((197, .aload_n 0, 1, 0, 0, 0, 0), 5, 0), ((198, .getfield 52, 3, 0, 28, 20, 57), 50, 0), ((201, .iload_n 3, 1, 0, 0, 0, 0), 1, 3), ((202, .iaload, 1, 0, 0, 0, 0), 52, 0), ((203, .iastore, 1, 0, 0, 0, 0), 53, 0), ((204, .aload_n 0, 1, 0, 0, 0, 0), 5, 0), ((205, .bipush 20, 2, 20, 0, 0, 0), 13, 0), ((207, .iload_n 2, 1, 0, 0, 0, 0), 1, 2)],
  [((208, .iload_n 3, 1, 0, 0, 0, 0), 1, 3), ((209, .iconst 0, 1, 0, 0, 0, 0), 12, 0), ((210, .invokevirtual 686, 3, 31, 5, 0, 270), 56, 0), ((213, .aload_n 0, 1, 0, 0, 0, 0), 5, 0), ((214, .iconst 0, 1, 0, 0, 0, 0), 12, 0), ((215, .iconst 0, 1, 0, 0, 0, 0), 12, 0), ((216, .iconst 0, 1, 0, 0, 0, 0), 12, 0), ((217, .iconst 0, 1, 0, 0, 0, 0), 12, 0), ((218, .invokevirtual 686, 3, 31, 5, 0, 270), 56, 0), ((221, .iconst 1, 1, 1, 0, 0, 0), 12, 0), ((222, .ireturn, 1, 0, 0, 0, 0), 1000, 0)]])
def al_mX12_parameters : ev_MeK := (al_yX12_parameters, prog_14_method_80_code, 4, (some .boolean), [[((0, .aload_n 0, 1, 0, 0, 0, 0), 5, 0), ((1, .bipush 41, 2, 41, 0, 0, 0), 13, 0), ((3, .invokevirtual 635, 3, 36, 2, 0, 299), 56, 0), ((6, .ifCond .eq 8, 3, 14, 0, 0, 0), 38, 0), ((9, .aload_n 0, 1, 0, 0, 0, 0), 5, 0), ((10, .invokevirtual 638, 3, 212, 1, 0, 294), 56, 0), ((13, .ireturn, 1, 0, 0, 0, 0), 1000, 0), ((14, .iconst 1, 1, 1, 0, 0, 0), 12, 0), ((15, .istore_n 2, 1, 0, 0, 0, 0), 7, 2)],
  [((16, .iload_n 2, 1, 0, 0, 0, 0), 1, 2), ((17, .ifCond .eq 122, 3, 139, 0, 0, 0), 38, 0), ((20, .aload_n 0, 1, 0, 0, 0, 0), 5, 0), ((21, .sipush 301, 3, 301, 0, 0, 0), 14, 0), ((24, .invokevirtual 635, 3, 36, 2, 0, 299), 56, 0), ((27, .ifCond .eq 32, 3, 59, 0, 0, 0), 38, 0), ((30, .aload_n 0, 1, 0, 0, 0, 0), 5, 0), ((31, .getfield 58, 3, 0, 30, 20, 60), 50, 0)],
  [((34, .iload_n 1, 1, 0, 0, 0, 0), 1, 1), ((35, .iconst 1, 1, 1, 0, 0, 0), 12, 0), ((36, .bastore, 1, 0, 0, 0, 0), 55, 0), ((37, .aload_n 0, 1, 0, 0, 0, 0), 5, 0), ((38, .invokevirtual 638, 3, 212, 1, 0, 294), 56, 0), ((41, .ifCond .eq 16, 3, 57, 0, 0, 0), 38, 0), ((44, .aload_n 0, 1, 0, 0, 0, 0), 5, 0), ((45, .bipush 41, 2, 41, 0, 0, 0), 13, 0), ((47, .invokevirtual 792, 3, 213, 2, 0, 283), 56, 0)],
  [((50, .ifCond .eq 7, 3, 57, 0, 0, 0), 38, 0), ((53, .iconst 1, 1, 1, 0, 0, 0), 12, 0), ((54, .goto 4, 3, 58, 0, 0, 0), 37, 0), ((57, .iconst 0, 1, 0, 0, 0, 0), 12, 0), ((58, .ireturn, 1, 0, 0, 0, 0), 1000, 0), ((59, .aload_n 0, 1, 0, 0, 0, 0), 5, 0), ((60, .getfield 36, 3, 0, 21, 20, 51), 50, 0), ((63, .aload_n 0, 1, 0, 0, 0, 0), 5, 0)],
  [((64, .getfield 624, 3, 0, 25, 0, 260), 50, 0), ((67, .iaload, 1, 0, 0, 0, 0), 52, 0), ((68, .iconst 1, 1, 1, 0, 0, 0), 12, 0), ((69, .if_icmp .eq 8, 3, 77, 0, 0, 0), 44, 0), ((72, .aload_n 0, 1, 0, 0, 0, 0), 5, 0), ((73, .invokevirtual 642, 3, 211, 1, 0, 319), 56, 0), ((76, .ireturn, 1, 0, 0, 0, 0), 1000, 0), ((77, .aload_n 0, 1, 0, 0, 0, 0), 5, 0), ((78, .aload_n 0, 1, 0, 0, 0, 0), 5, 0), ((79, .invokevirtual 627, 3, 210, 1, 0, 801), 56, 0)],
  [((82, .invokevirtual 729, 3, 219, 2, 0, 814), 56, 0), ((85, .istore_n 3, 1, 0, 0, 0, 0), 7, 3), ((86, .iload_n 3, 1, 0, 0, 0, 0), 1, 3), ((87, .ifCond .ge 5, 3, 92, 0, 0, 0), 41, 0), ((90, .iconst 0, 1, 0, 0, 0, 0), 12, 0), ((91, .ireturn, 1, 0, 0, 0, 0), 1000, 0), ((92, .aload_n 0, 1, 0, 0, 0, 0), 5, 0), ((93, .aload_n 0, 1, 0, 0, 0, 0), 5, 0), ((94, .getfield 42, 3, 0, 23, 20, 54), 50, 0)],
  [((97, .aload_n 0, 1, 0, 0, 0, 0), 5, 0), ((98, .getfield 624, 3, 0, 25, 0, 260), 50, 0), ((101, .laload, 1, 0, 0, 0, 0), 58, 0), ((102, .l2i, 1, 0, 0, 0, 0), 33, 0), ((103, .iload_n 3, 1, 0, 0, 0, 0), 1, 3), ((104, .invokevirtual 732, 3, 220, 3, 0, 815), 56, 0), ((107, .aload_n 0, 1, 0, 0, 0, 0), 5, 0), ((108, .invokevirtual 638, 3, 212, 1, 0, 294), 56, 0), ((111, .ifCond .ne 5, 3, 116, 0, 0, 0), 39, 0)],
  [((114, .iconst 0, 1, 0, 0, 0, 0), 12, 0), ((115, .ireturn, 1, 0, 0, 0, 0), 1000, 0), ((116, .aload_n 0, 1, 0, 0, 0, 0), 5, 0), ((117, .bipush 44, 2, 44, 0, 0, 0), 13, 0), ((119, .invokevirtual 635, 3, 36, 2, 0, 299), 56, 0), ((122, .istore_n 2, 1, 0, 0, 0, 0), 7, 2), ((123, .iload_n 2, 1, 0, 0, 0, 0), 1, 2), ((124, .ifCond .eq 12, 3, 136, 0, 0, 0), 38, 0), ((127, .aload_n 0, 1, 0, 0, 0, 0), 5, 0)],
  [((128, .invokevirtual 638, 3, 212, 1, 0, 294), 56, 0), ((131, .ifCond .ne 5, 3, 136, 0, 0, 0), 39, 0), ((134, .iconst 0, 1, 0, 0, 0, 0), 12, 0), ((135, .ireturn, 1, 0, 0, 0, 0), 1000, 0), ((136, .goto (-120), 3, 16, 0, 0, 0), 37, 0), ((139, .aload_n 0, 1, 0, 0, 0, 0), 5, 0), ((140, .bipush 41, 2, 41, 0, 0, 0), 13, 0), ((142, .invokevirtual 792, 3, 213, 2, 0, 283), 56, 0)],
  [((145, .ireturn, 1, 0, 0, 0, 0), 1000, 0)]])
def al_mX12_bodyEnd : ev_MeK := (al_yX12_bodyEnd, prog_14_method_81_code, 4, (some .boolean), [[((0, .aload_n 0, 1, 0, 0, 0, 0), 5, 0), ((1, .bipush 6, 2, 6, 0, 0, 0), 13, 0), ((3, .invokevirtual 746, 3, 214, 2, 0, 309), 56, 0), ((6, .ifCond .ne 5, 3, 11, 0, 0, 0), 39, 0), ((9, .iconst 0, 1, 0, 0, 0, 0), 12, 0), ((10, .ireturn, 1, 0, 0, 0, 0), 1000, 0), ((11, .aload_n 0, 1, 0, 0, 0, 0), 5, 0), ((12, .bipush 14, 2, 14, 0, 0, 0), 13, 0), ((14, .iconst 0, 1, 0, 0, 0, 0), 12, 0), ((15, .iconst 0, 1, 0, 0, 0, 0), 12, 0)],
  [((16, .iconst 0, 1, 0, 0, 0, 0), 12, 0), ((17, .invokevirtual 682, 3, 30, 5, 0, 269), 56, 0), ((20, .istore_n 3, 1, 0, 0, 0, 0), 7, 3), ((21, .aload_n 0, 1, 0, 0, 0, 0), 5, 0), ((22, .bipush 38, 2, 38, 0, 0, 0), 13, 0), ((24, .iconst 0, 1, 0, 0, 0, 0), 12, 0), ((25, .iconst 0, 1, 0, 0, 0, 0), 12, 0), ((26, .iconst 0, 1, 0, 0, 0, 0), 12, 0), ((27, .invokevirtual 682, 3, 30, 5, 0, 269), 56, 0), ((30, .istore_n 3, 1, 0, 0, 0, 0), 7, 3), ((31, .aload_n 0, 1, 0, 0, 0, 0), 5, 0)],
  [((32, .aload_n 0, 1, 0, 0, 0, 0), 5, 0), ((33, .getfield 104, 3, 0, 51, 20, 75), 50, 0), ((36, .aload_n 0, 1, 0, 0, 0, 0), 5, 0), ((37, .getfield 660, 3, 0, 53, 0, 264), 50, 0), ((40, .iaload, 1, 0, 0, 0, 0), 52, 0), ((41, .putfield 666, 3, 0, 50, 0, 263), 51, 0), ((44, .aload_n 0, 1, 0, 0, 0, 0), 5, 0), ((45, .dup, 1, 0, 0, 0, 0), 35, 0), ((46, .getfield 660, 3, 0, 53, 0, 264), 50, 0)],
  [((49, .iconst 1, 1, 1, 0, 0, 0), 12, 0), ((50, .isub, 1, 0, 0, 0, 0), 17, 0), ((51, .putfield 660, 3, 0, 53, 0, 264), 51, 0), ((54, .aload_n 0, 1, 0, 0, 0, 0), 5, 0), ((55, .getfield 74, 3, 0, 36, 20, 65), 50, 0), ((58, .iload_n 1, 1, 0, 0, 0, 0), 1, 1), ((59, .aload_n 0, 1, 0, 0, 0, 0), 5, 0), ((60, .getfield 651, 3, 0, 41, 0, 267), 50, 0), ((63, .iastore, 1, 0, 0, 0, 0), 53, 0)],
  [((64, .aload_n 0, 1, 0, 0, 0, 0), 5, 0), ((65, .bipush 25, 2, 25, 0, 0, 0), 13, 0), ((67, .iload_n 2, 1, 0, 0, 0, 0), 1, 2), ((68, .iconst 0, 1, 0, 0, 0, 0), 12, 0), ((69, .iconst 0, 1, 0, 0, 0, 0), 12, 0), ((70, .invokevirtual 682, 3, 30, 5, 0, 269), 56, 0), ((73, .istore_n 3, 1, 0, 0, 0, 0), 7, 3), ((74, .aload_n 0, 1, 0, 0, 0, 0), 5, 0), ((75, .iconst (-1), 1, 4294967295, 0, 0, 0), 12, 0), ((76, .putfield 755, 3, 0, 64, 0, 820), 51, 0), ((79, .iconst 1, 1, 1, 0, 0, 0), 12, 0)],
  [((80, .ireturn, 1, 0, 0, 0, 0), 1000, 0)]])
def al_mX12_afterChain : ev_MeK := (al_yX12_afterChain, prog_14_method_82_code, 5, (some .boolean), [[((0, .aload_n 0, 1, 0, 0, 0, 0), 5, 0), ((1, .getfield 676, 3, 0, 61, 0, 806), 50, 0), ((4, .iconst 3, 1, 3, 0, 0, 0), 12, 0), ((5, .if_icmp .gt 7, 3, 12, 0, 0, 0), 48, 0), ((8, .iconst 1, 1, 1, 0, 0, 0), 12, 0), ((9, .goto 4, 3, 13, 0, 0, 0), 37, 0), ((12, .iconst 0, 1, 0, 0, 0, 0), 12, 0), ((13, .istore_n 2, 1, 0, 0, 0, 0), 7, 2), ((14, .aload_n 0, 1, 0, 0, 0, 0), 5, 0), ((15, .bipush 61, 2, 61, 0, 0, 0), 13, 0)],
  [((17, .invokevirtual 635, 3, 36, 2, 0, 299), 56, 0), ((20, .ifCond .ne 12, 3, 32, 0, 0, 0), 39, 0), ((23, .aload_n 0, 1, 0, 0, 0, 0), 5, 0), ((24, .bipush 44, 2, 44, 0, 0, 0), 13, 0), ((26, .invokevirtual 635, 3, 36, 2, 0, 299), 56, 0), ((29, .ifCond .eq 212, 3, 241, 0, 0, 0), 38, 0)],
  [((32, .iload_n 2, 1, 0, 0, 0, 0), 1, 2), ((33, .ifCond .ne 8, 3, 41, 0, 0, 0), 39, 0), ((36, .aload_n 0, 1, 0, 0, 0, 0), 5, 0), ((37, .invokevirtual 642, 3, 211, 1, 0, 319), 56, 0), ((40, .ireturn, 1, 0, 0, 0, 0), 1000, 0), ((41, .aload_n 0, 1, 0, 0, 0, 0), 5, 0), ((42, .getfield 116, 3, 0, 57, 20, 79), 50, 0), ((45, .aload_n 0, 1, 0, 0, 0, 0), 5, 0), ((46, .getfield 705, 3, 0, 60, 0, 266), 50, 0)],
  [((49, .aload_n 0, 1, 0, 0, 0, 0), 5, 0), ((50, .getfield 676, 3, 0, 61, 0, 806), 50, 0), ((53, .iastore, 1, 0, 0, 0, 0), 53, 0), ((54, .aload_n 0, 1, 0, 0, 0, 0), 5, 0), ((55, .getfield 119, 3, 0, 58, 20, 80), 50, 0), ((58, .aload_n 0, 1, 0, 0, 0, 0), 5, 0), ((59, .getfield 705, 3, 0, 60, 0, 266), 50, 0), ((62, .aload_n 0, 1, 0, 0, 0, 0), 5, 0), ((63, .getfield 679, 3, 0, 62, 0, 807), 50, 0)],
  [((66, .iastore, 1, 0, 0, 0, 0), 53, 0), ((67, .aload_n 0, 1, 0, 0, 0, 0), 5, 0), ((68, .getfield 122, 3, 0, 59, 20, 81), 50, 0), ((71, .aload_n 0, 1, 0, 0, 0, 0), 5, 0), ((72, .getfield 705, 3, 0, 60, 0, 266), 50, 0), ((75, .aload_n 0, 1, 0, 0, 0, 0), 5, 0), ((76, .getfield 669, 3, 0, 63, 0, 804), 50, 0), ((79, .iastore, 1, 0, 0, 0, 0), 53, 0)],
  [((80, .aload_n 0, 1, 0, 0, 0, 0), 5, 0), ((81, .dup, 1, 0, 0, 0, 0), 35, 0), ((82, .getfield 705, 3, 0, 60, 0, 266), 50, 0), ((85, .iconst 1, 1, 1, 0, 0, 0), 12, 0), ((86, .iadd, 1, 0, 0, 0, 0), 16, 0), ((87, .putfield 705, 3, 0, 60, 0, 266), 51, 0), ((90, .aload_n 0, 1, 0, 0, 0, 0), 5, 0), ((91, .bipush 61, 2, 61, 0, 0, 0), 13, 0), ((93, .invokevirtual 635, 3, 36, 2, 0, 299), 56, 0)],
  [((96, .ifCond .eq 68, 3, 164, 0, 0, 0), 38, 0), ((99, .aload_n 0, 1, 0, 0, 0, 0), 5, 0), ((100, .invokevirtual 690, 3, 215, 1, 0, 293), 56, 0), ((103, .istore_n 3, 1, 0, 0, 0, 0), 7, 3), ((104, .aload_n 0, 1, 0, 0, 0, 0), 5, 0), ((105, .invokevirtual 638, 3, 212, 1, 0, 294), 56, 0), ((108, .ifCond .ne 5, 3, 113, 0, 0, 0), 39, 0), ((111, .iconst 0, 1, 0, 0, 0, 0), 12, 0)],
  [((112, .ireturn, 1, 0, 0, 0, 0), 1000, 0), ((113, .aload_n 0, 1, 0, 0, 0, 0), 5, 0), ((114, .invokevirtual 693, 3, 217, 1, 0, 295), 56, 0), ((117, .ifCond .ne 8, 3, 125, 0, 0, 0), 39, 0), ((120, .aload_n 0, 1, 0, 0, 0, 0), 5, 0), ((121, .invokevirtual 642, 3, 211, 1, 0, 319), 56, 0), ((124, .ireturn, 1, 0, 0, 0, 0), 1000, 0), ((125, .aload_n 0, 1, 0, 0, 0, 0), 5, 0), ((126, .bipush 14, 2, 14, 0, 0, 0), 13, 0)],
  [((128, .iconst 0, 1, 0, 0, 0, 0), 12, 0), ((129, .iconst 0, 1, 0, 0, 0, 0), 12, 0), ((130, .iconst 0, 1, 0, 0, 0, 0), 12, 0), ((131, .invokevirtual 682, 3, 30, 5, 0, 269), 56, 0), ((134, .istore 4, 2, 0, 0, 0, 0), 6, 4), ((136, .aload_n 0, 1, 0, 0, 0, 0), 5, 0), ((137, .bipush 22, 2, 22, 0, 0, 0), 13, 0), ((139, .iload_n 1, 1, 0, 0, 0, 0), 1, 1), ((140, .iload_n 3, 1, 0, 0, 0, 0), 1, 3), ((141, .iconst 0, 1, 0, 0, 0, 0), 12, 0), ((142, .invokevirtual 686, 3, 31, 5, 0, 270), 56, 0)],
  [((145, .aload_n 0, 1, 0, 0, 0, 0), 5, 0), ((146, .bipush 14, 2, 14, 0, 0, 0), 13, 0), ((148, .iconst 0, 1, 0, 0, 0, 0), 12, 0), ((149, .iconst 0, 1, 0, 0, 0, 0), 12, 0), ((150, .iconst 0, 1, 0, 0, 0, 0), 12, 0), ((151, .invokevirtual 686, 3, 31, 5, 0, 270), 56, 0), ((154, .aload_n 0, 1, 0, 0, 0, 0), 5, 0), ((155, .iconst 3, 1, 3, 0, 0, 0), 12, 0), ((156, .iconst 0, 1, 0, 0, 0, 0), 12, 0), ((157, .iconst 0, 1, 0, 0, 0, 0), 12, 0), ((158, .iconst 0, 1, 0, 0, 0, 0), 12, 0), ((159, .invokevirtual 686, 3, 31, 5, 0, 270), 56, 0)],
  [((162, .iconst 1, 1, 1, 0, 0, 0), 12, 0), ((163, .ireturn, 1, 0, 0, 0, 0), 1000, 0), ((164, .aload_n 0, 1, 0, 0, 0, 0), 5, 0), ((165, .invokevirtual 638, 3, 212, 1, 0, 294), 56, 0), ((168, .ifCond .ne 5, 3, 173, 0, 0, 0), 39, 0), ((171, .iconst 0, 1, 0, 0, 0, 0), 12, 0), ((172, .ireturn, 1, 0, 0, 0, 0), 1000, 0), ((173, .aload_n 0, 1, 0, 0, 0, 0), 5, 0), ((174, .getfield 36, 3, 0, 21, 20, 51), 50, 0)],
  [((177, .aload_n 0, 1, 0, 0, 0, 0), 5, 0), ((178, .getfield 624, 3, 0, 25, 0, 260), 50, 0), ((181, .iaload, 1, 0, 0, 0, 0), 52, 0), ((182, .iconst 1, 1, 1, 0, 0, 0), 12, 0), ((183, .if_icmp .eq 17, 3, 200, 0, 0, 0), 44, 0), ((186, .aload_n 0, 1, 0, 0, 0, 0), 5, 0), ((187, .bipush 40, 2, 40, 0, 0, 0), 13, 0), ((189, .invokevirtual 635, 3, 36, 2, 0, 299), 56, 0)],
  [((192, .ifCond .ne 8, 3, 200, 0, 0, 0), 39, 0), ((195, .aload_n 0, 1, 0, 0, 0, 0), 5, 0), ((196, .invokevirtual 642, 3, 211, 1, 0, 319), 56, 0), ((199, .ireturn, 1, 0, 0, 0, 0), 1000, 0), ((200, .aload_n 0, 1, 0, 0, 0, 0), 5, 0), ((201, .getfield 705, 3, 0, 60, 0, 266), 50, 0), ((204, .iload_n 1, 1, 0, 0, 0, 0), 1, 1), ((205, .isub, 1, 0, 0, 0, 0), 17, 0), ((206, .bipush 20, 2, 20, 0, 0, 0), 13, 0)],
  [((208, .if_icmp .ne 13, 3, 221, 0, 0, 0), 45, 0), ((211, .aload_n 0, 1, 0, 0, 0, 0), 5, 0), ((212, .iconst 3, 1, 3, 0, 0, 0), 12, 0), ((213, .aload_n 0, 1, 0, 0, 0, 0), 5, 0), ((214, .invokevirtual 627, 3, 210, 1, 0, 801), 56, 0), ((217, .invokevirtual 631, 3, 209, 3, 0, 802), 56, 0), ((220, .ireturn, 1, 0, 0, 0, 0), 1000, 0), ((221, .aload_n 0, 1, 0, 0, 0, 0), 5, 0), ((222, .bipush 21, 2, 21, 0, 0, 0), 13, 0)],
  [((224, .iload_n 1, 1, 0, 0, 0, 0), 1, 1), ((225, .iconst 0, 1, 0, 0, 0, 0), 12, 0), ((226, .iconst 0, 1, 0, 0, 0, 0), 12, 0), ((227, .invokevirtual 686, 3, 31, 5, 0, 270), 56, 0), ((230, .aload_n 0, 1, 0, 0, 0, 0), 5, 0), ((231, .bipush 7, 2, 7, 0, 0, 0), 13, 0), ((233, .iconst 0, 1, 0, 0, 0, 0), 12, 0), ((234, .iconst 0, 1, 0, 0, 0, 0), 12, 0), ((235, .iconst 0, 1, 0, 0, 0, 0), 12, 0), ((236, .invokevirtual 686, 3, 31, 5, 0, 270), 56, 0), ((239, .iconst 1, 1, 1, 0, 0, 0), 12, 0)],
  [((240, .ireturn, 1, 0, 0, 0, 0), 1000, 0), ((241, .aload_n 0, 1, 0, 0, 0, 0), 5, 0), ((242, .getfield 676, 3, 0, 61, 0, 806), 50, 0), ((245, .iconst 4, 1, 4, 0, 0, 0), 12, 0), ((246, .if_icmp .ne 11, 3, 257, 0, 0, 0), 45, 0), ((249, .aload_n 0, 1, 0, 0, 0, 0), 5, 0), ((250, .getfield 705, 3, 0, 60, 0, 266), 50, 0), ((253, .iload_n 1, 1, 0, 0, 0, 0), 1, 1), ((254, .if_icmp .le 8, 3, 262, 0, 0, 0), 49, 0)],
  [((257, .aload_n 0, 1, 0, 0, 0, 0), 5, 0), ((258, .invokevirtual 642, 3, 211, 1, 0, 319), 56, 0), ((261, .ireturn, 1, 0, 0, 0, 0), 1000, 0), ((262, .aload_n 0, 1, 0, 0, 0, 0), 5, 0), ((263, .getfield 74, 3, 0, 36, 20, 65), 50, 0), ((266, .aload_n 0, 1, 0, 0, 0, 0), 5, 0), ((267, .getfield 679, 3, 0, 62, 0, 807), 50, 0), ((270, .iconst 0, 1, 0, 0, 0, 0), 12, 0), ((271, .iastore, 1, 0, 0, 0, 0), 53, 0)],
  [((272, .aload_n 0, 1, 0, 0, 0, 0), 5, 0), ((273, .bipush 47, 2, 47, 0, 0, 0), 13, 0), ((275, .iconst 0, 1, 0, 0, 0, 0), 12, 0), ((276, .iconst 0, 1, 0, 0, 0, 0), 12, 0), ((277, .iconst 0, 1, 0, 0, 0, 0), 12, 0), ((278, .invokevirtual 682, 3, 30, 5, 0, 269), 56, 0), ((281, .istore_n 3, 1, 0, 0, 0, 0), 7, 3), ((282, .iconst 1, 1, 1, 0, 0, 0), 12, 0), ((283, .ireturn, 1, 0, 0, 0, 0), 1000, 0)]])
def al_mX12_assign : ev_MeK := (al_yX12_assign, prog_14_method_83_code, 7, (some .boolean), [[((0, .aload_n 0, 1, 0, 0, 0, 0), 5, 0), ((1, .getfield 705, 3, 0, 60, 0, 266), 50, 0), ((4, .iload_n 1, 1, 0, 0, 0, 0), 1, 1), ((5, .isub, 1, 0, 0, 0, 0), 17, 0), ((6, .istore_n 3, 1, 0, 0, 0, 0), 7, 3), ((7, .aload_n 0, 1, 0, 0, 0, 0), 5, 0), ((8, .bipush 17, 2, 17, 0, 0, 0), 13, 0), ((10, .iconst 0, 1, 0, 0, 0, 0), 12, 0), ((11, .iconst 0, 1, 0, 0, 0, 0), 12, 0), ((12, .iload_n 2, 1, 0, 0, 0, 0), 1, 2), ((13, .invokevirtual 682, 3, 30, 5, 0, 269), 56, 0)],
  [((16, .istore 4, 2, 0, 0, 0, 0), 6, 4), ((18, .aload_n 0, 1, 0, 0, 0, 0), 5, 0), ((19, .bipush 18, 2, 18, 0, 0, 0), 13, 0), ((21, .iload_n 3, 1, 0, 0, 0, 0), 1, 3), ((22, .iconst 0, 1, 0, 0, 0, 0), 12, 0), ((23, .iconst 0, 1, 0, 0, 0, 0), 12, 0), ((24, .invokevirtual 682, 3, 30, 5, 0, 269), 56, 0), ((27, .istore 4, 2, 0, 0, 0, 0), 6, 4), ((29, .iconst 0, 1, 0, 0, 0, 0), 12, 0), ((30, .istore 5, 2, 0, 0, 0, 0), 6, 5)],
  [((32, .iload_n 1, 1, 0, 0, 0, 0), 1, 1), ((33, .istore 6, 2, 0, 0, 0, 0), 6, 6), ((35, .iload 6, 2, 0, 0, 0, 0), 0, 6), ((37, .aload_n 0, 1, 0, 0, 0, 0), 5, 0), ((38, .getfield 705, 3, 0, 60, 0, 266), 50, 0), ((41, .if_icmp .ge 31, 3, 72, 0, 0, 0), 47, 0), ((44, .aload_n 0, 1, 0, 0, 0, 0), 5, 0), ((45, .getfield 116, 3, 0, 57, 20, 79), 50, 0)],
  [((48, .iload 6, 2, 0, 0, 0, 0), 0, 6), ((50, .iaload, 1, 0, 0, 0, 0), 52, 0), ((51, .iconst 3, 1, 3, 0, 0, 0), 12, 0), ((52, .if_icmp .ne 10, 3, 62, 0, 0, 0), 45, 0), ((55, .iload 5, 2, 0, 0, 0, 0), 0, 5), ((57, .iconst 2, 1, 2, 0, 0, 0), 12, 0), ((58, .iadd, 1, 0, 0, 0, 0), 16, 0), ((59, .goto 5, 3, 64, 0, 0, 0), 37, 0), ((62, .iload 5, 2, 0, 0, 0, 0), 0, 5)],
  [((64, .istore 5, 2, 0, 0, 0, 0), 6, 5), ((66, .iinc 6 1, 3, 1, 0, 0, 0), 36, 6), ((69, .goto (-34), 3, 35, 0, 0, 0), 37, 0), ((72, .aload_n 0, 1, 0, 0, 0, 0), 5, 0), ((73, .getfield 705, 3, 0, 60, 0, 266), 50, 0), ((76, .iconst 1, 1, 1, 0, 0, 0), 12, 0), ((77, .isub, 1, 0, 0, 0, 0), 17, 0), ((78, .istore 6, 2, 0, 0, 0, 0), 6, 6)],
  [((80, .iload 6, 2, 0, 0, 0, 0), 0, 6), ((82, .iload_n 1, 1, 0, 0, 0, 0), 1, 1), ((83, .if_icmp .lt 72, 3, 155, 0, 0, 0), 46, 0), ((86, .aload_n 0, 1, 0, 0, 0, 0), 5, 0), ((87, .getfield 116, 3, 0, 57, 20, 79), 50, 0), ((90, .iload 6, 2, 0, 0, 0, 0), 0, 6), ((92, .iaload, 1, 0, 0, 0, 0), 52, 0), ((93, .iconst 3, 1, 3, 0, 0, 0), 12, 0), ((94, .if_icmp .ne 30, 3, 124, 0, 0, 0), 45, 0)],
  [((97, .iload 5, 2, 0, 0, 0, 0), 0, 5), ((99, .iconst 2, 1, 2, 0, 0, 0), 12, 0), ((100, .isub, 1, 0, 0, 0, 0), 17, 0), ((101, .istore 5, 2, 0, 0, 0, 0), 6, 5), ((103, .aload_n 0, 1, 0, 0, 0, 0), 5, 0), ((104, .bipush 13, 2, 13, 0, 0, 0), 13, 0), ((106, .iload 5, 2, 0, 0, 0, 0), 0, 5), ((108, .iconst 0, 1, 0, 0, 0, 0), 12, 0), ((109, .aload_n 0, 1, 0, 0, 0, 0), 5, 0), ((110, .getfield 122, 3, 0, 59, 20, 81), 50, 0)],
  [((113, .iload 6, 2, 0, 0, 0, 0), 0, 6), ((115, .iaload, 1, 0, 0, 0, 0), 52, 0), ((116, .invokevirtual 682, 3, 30, 5, 0, 269), 56, 0), ((119, .istore 4, 2, 0, 0, 0, 0), 6, 4), ((121, .goto 28, 3, 149, 0, 0, 0), 37, 0), ((124, .aload_n 0, 1, 0, 0, 0, 0), 5, 0), ((125, .bipush 9, 2, 9, 0, 0, 0), 13, 0), ((127, .aload_n 0, 1, 0, 0, 0, 0), 5, 0)],
  [((128, .getfield 116, 3, 0, 57, 20, 79), 50, 0), ((131, .iload 6, 2, 0, 0, 0, 0), 0, 6), ((133, .iaload, 1, 0, 0, 0, 0), 52, 0), ((134, .iadd, 1, 0, 0, 0, 0), 16, 0), ((135, .aload_n 0, 1, 0, 0, 0, 0), 5, 0), ((136, .getfield 119, 3, 0, 58, 20, 80), 50, 0), ((139, .iload 6, 2, 0, 0, 0, 0), 0, 6), ((141, .iaload, 1, 0, 0, 0, 0), 52, 0), ((142, .iconst 0, 1, 0, 0, 0, 0), 12, 0), ((143, .iconst 0, 1, 0, 0, 0, 0), 12, 0)],
  [((144, .invokevirtual 682, 3, 30, 5, 0, 269), 56, 0), ((147, .istore 4, 2, 0, 0, 0, 0), 6, 4), ((149, .iinc 6 (-1), 3, 4294967295, 0, 0, 0), 36, 6), ((152, .goto (-72), 3, 80, 0, 0, 0), 37, 0), ((155, .aload_n 0, 1, 0, 0, 0, 0), 5, 0), ((156, .iload_n 1, 1, 0, 0, 0, 0), 1, 1), ((157, .putfield 705, 3, 0, 60, 0, 266), 51, 0)],
  [((160, .aload_n 0, 1, 0, 0, 0, 0), 5, 0), ((161, .bipush 47, 2, 47, 0, 0, 0), 13, 0), ((163, .iconst 0, 1, 0, 0, 0, 0), 12, 0), ((164, .iconst 0, 1, 0, 0, 0, 0), 12, 0), ((165, .iconst 0, 1, 0, 0, 0, 0), 12, 0), ((166, .invokevirtual 682, 3, 30, 5, 0, 269), 56, 0), ((169, .istore 4, 2, 0, 0, 0, 0), 6, 4), ((171, .iconst 1, 1, 1, 0, 0, 0), 12, 0), ((172, .ireturn, 1, 0, 0, 0, 0), 1000, 0)]])
def al_mX12_then : ev_MeK := (al_yX12_then, prog_14_method_84_code, 3, (some .boolean), [[((0, .aload_n 0, 1, 0, 0, 0, 0), 5, 0), ((1, .bipush 18, 2, 18, 0, 0, 0), 13, 0), ((3, .invokevirtual 746, 3, 214, 2, 0, 309), 56, 0), ((6, .ifCond .ne 5, 3, 11, 0, 0, 0), 39, 0), ((9, .iconst 0, 1, 0, 0, 0, 0), 12, 0), ((10, .ireturn, 1, 0, 0, 0, 0), 1000, 0), ((11, .aload_n 0, 1, 0, 0, 0, 0), 5, 0), ((12, .bipush 22, 2, 22, 0, 0, 0), 13, 0), ((14, .iconst 0, 1, 0, 0, 0, 0), 12, 0), ((15, .iconst 0, 1, 0, 0, 0, 0), 12, 0)],
  [((16, .iconst 0, 1, 0, 0, 0, 0), 12, 0), ((17, .invokevirtual 682, 3, 30, 5, 0, 269), 56, 0), ((20, .istore_n 2, 1, 0, 0, 0, 0), 7, 2), ((21, .aload_n 0, 1, 0, 0, 0, 0), 5, 0), ((22, .bipush 24, 2, 24, 0, 0, 0), 13, 0), ((24, .iload_n 2, 1, 0, 0, 0, 0), 1, 2), ((25, .iload_n 1, 1, 0, 0, 0, 0), 1, 1), ((26, .iconst 0, 1, 0, 0, 0, 0), 12, 0), ((27, .invokevirtual 686, 3, 31, 5, 0, 270), 56, 0), ((30, .aload_n 0, 1, 0, 0, 0, 0), 5, 0), ((31, .invokevirtual 708, 3, 224, 1, 0, 808), 56, 0)],
  [((34, .iconst 1, 1, 1, 0, 0, 0), 12, 0), ((35, .ireturn, 1, 0, 0, 0, 0), 1000, 0)]])
def al_mX12_afterIf : ev_MeK := (al_yX12_afterIf, prog_14_method_85_code, 5, (some .boolean), [[((0, .iload_n 2, 1, 0, 0, 0, 0), 1, 2), ((1, .istore_n 3, 1, 0, 0, 0, 0), 7, 3), ((2, .aload_n 0, 1, 0, 0, 0, 0), 5, 0), ((3, .iconst 5, 1, 5, 0, 0, 0), 12, 0), ((4, .invokevirtual 645, 3, 34, 2, 0, 292), 56, 0), ((7, .ifCond .ne 11, 3, 18, 0, 0, 0), 39, 0), ((10, .aload_n 0, 1, 0, 0, 0, 0), 5, 0), ((11, .iconst 4, 1, 4, 0, 0, 0), 12, 0), ((12, .invokevirtual 645, 3, 34, 2, 0, 292), 56, 0), ((15, .ifCond .eq 79, 3, 94, 0, 0, 0), 38, 0)],
  [((18, .aload_n 0, 1, 0, 0, 0, 0), 5, 0), ((19, .iconst 5, 1, 5, 0, 0, 0), 12, 0), ((20, .invokevirtual 645, 3, 34, 2, 0, 292), 56, 0), ((23, .istore 4, 2, 0, 0, 0, 0), 6, 4), ((25, .aload_n 0, 1, 0, 0, 0, 0), 5, 0), ((26, .bipush 21, 2, 21, 0, 0, 0), 13, 0), ((28, .iload_n 2, 1, 0, 0, 0, 0), 1, 2), ((29, .iconst 0, 1, 0, 0, 0, 0), 12, 0), ((30, .iconst 0, 1, 0, 0, 0, 0), 12, 0), ((31, .invokevirtual 682, 3, 30, 5, 0, 269), 56, 0)],
  [((34, .istore_n 3, 1, 0, 0, 0, 0), 7, 3), ((35, .aload_n 0, 1, 0, 0, 0, 0), 5, 0), ((36, .getfield 74, 3, 0, 36, 20, 65), 50, 0), ((39, .iload_n 1, 1, 0, 0, 0, 0), 1, 1), ((40, .aload_n 0, 1, 0, 0, 0, 0), 5, 0), ((41, .getfield 651, 3, 0, 41, 0, 267), 50, 0), ((44, .iastore, 1, 0, 0, 0, 0), 53, 0), ((45, .aload_n 0, 1, 0, 0, 0, 0), 5, 0), ((46, .invokevirtual 638, 3, 212, 1, 0, 294), 56, 0)],
  [((49, .ifCond .ne 5, 3, 54, 0, 0, 0), 39, 0), ((52, .iconst 0, 1, 0, 0, 0, 0), 12, 0), ((53, .ireturn, 1, 0, 0, 0, 0), 1000, 0), ((54, .iload 4, 2, 0, 0, 0, 0), 0, 4), ((56, .ifCond .eq 23, 3, 79, 0, 0, 0), 38, 0), ((59, .aload_n 0, 1, 0, 0, 0, 0), 5, 0), ((60, .bipush 23, 2, 23, 0, 0, 0), 13, 0), ((62, .iload_n 3, 1, 0, 0, 0, 0), 1, 3), ((63, .iconst 0, 1, 0, 0, 0, 0), 12, 0)],
  [((64, .iconst 0, 1, 0, 0, 0, 0), 12, 0), ((65, .invokevirtual 686, 3, 31, 5, 0, 270), 56, 0), ((68, .aload_n 0, 1, 0, 0, 0, 0), 5, 0), ((69, .iconst 3, 1, 3, 0, 0, 0), 12, 0), ((70, .iconst 0, 1, 0, 0, 0, 0), 12, 0), ((71, .iconst 0, 1, 0, 0, 0, 0), 12, 0), ((72, .iconst 0, 1, 0, 0, 0, 0), 12, 0), ((73, .invokevirtual 686, 3, 31, 5, 0, 270), 56, 0), ((76, .goto 16, 3, 92, 0, 0, 0), 37, 0), ((79, .aload_n 0, 1, 0, 0, 0, 0), 5, 0)],
  [((80, .bipush 25, 2, 25, 0, 0, 0), 13, 0), ((82, .iload_n 3, 1, 0, 0, 0, 0), 1, 3), ((83, .iconst 0, 1, 0, 0, 0, 0), 12, 0), ((84, .iconst 0, 1, 0, 0, 0, 0), 12, 0), ((85, .invokevirtual 686, 3, 31, 5, 0, 270), 56, 0), ((88, .aload_n 0, 1, 0, 0, 0, 0), 5, 0), ((89, .invokevirtual 708, 3, 224, 1, 0, 808), 56, 0), ((92, .iconst 1, 1, 1, 0, 0, 0), 12, 0), ((93, .ireturn, 1, 0, 0, 0, 0), 1000, 0), ((94, .aload_n 0, 1, 0, 0, 0, 0), 5, 0), ((95, .getfield 74, 3, 0, 36, 20, 65), 50, 0)],
  [((98, .iload_n 1, 1, 0, 0, 0, 0), 1, 1), ((99, .aload_n 0, 1, 0, 0, 0, 0), 5, 0), ((100, .getfield 651, 3, 0, 41, 0, 267), 50, 0), ((103, .iastore, 1, 0, 0, 0, 0), 53, 0), ((104, .aload_n 0, 1, 0, 0, 0, 0), 5, 0), ((105, .iload_n 3, 1, 0, 0, 0, 0), 1, 3), ((106, .invokevirtual 795, 3, 260, 2, 0, 304), 56, 0), ((109, .ireturn, 1, 0, 0, 0, 0), 1000, 0)]])
def al_mX12_endIf : ev_MeK := (al_yX12_endIf, prog_14_method_86_code, 4, (some .boolean), [[((0, .iload_n 1, 1, 0, 0, 0, 0), 1, 1), ((1, .istore_n 2, 1, 0, 0, 0, 0), 7, 2), ((2, .iload_n 2, 1, 0, 0, 0, 0), 1, 2), ((3, .ifCond .lt 25, 3, 28, 0, 0, 0), 40, 0), ((6, .aload_n 0, 1, 0, 0, 0, 0), 5, 0), ((7, .getfield 74, 3, 0, 36, 20, 65), 50, 0), ((10, .iload_n 2, 1, 0, 0, 0, 0), 1, 2), ((11, .iaload, 1, 0, 0, 0, 0), 52, 0), ((12, .istore_n 3, 1, 0, 0, 0, 0), 7, 3), ((13, .aload_n 0, 1, 0, 0, 0, 0), 5, 0), ((14, .getfield 74, 3, 0, 36, 20, 65), 50, 0)],
  [((17, .iload_n 2, 1, 0, 0, 0, 0), 1, 2), ((18, .aload_n 0, 1, 0, 0, 0, 0), 5, 0), ((19, .getfield 651, 3, 0, 41, 0, 267), 50, 0), ((22, .iastore, 1, 0, 0, 0, 0), 53, 0), ((23, .iload_n 3, 1, 0, 0, 0, 0), 1, 3), ((24, .istore_n 2, 1, 0, 0, 0, 0), 7, 2), ((25, .goto (-23), 3, 2, 0, 0, 0), 37, 0), ((28, .aload_n 0, 1, 0, 0, 0, 0), 5, 0), ((29, .bipush 6, 2, 6, 0, 0, 0), 13, 0), ((31, .invokevirtual 746, 3, 214, 2, 0, 309), 56, 0)],
  [((34, .ireturn, 1, 0, 0, 0, 0), 1000, 0)]])
def al_mX12_whileDo : ev_MeK := (al_yX12_whileDo, prog_14_method_87_code, 2, (some .boolean), [[((0, .aload_n 0, 1, 0, 0, 0, 0), 5, 0), ((1, .iconst 3, 1, 3, 0, 0, 0), 12, 0), ((2, .invokevirtual 746, 3, 214, 2, 0, 309), 56, 0), ((5, .ifCond .ne 5, 3, 10, 0, 0, 0), 39, 0), ((8, .iconst 0, 1, 0, 0, 0, 0), 12, 0), ((9, .ireturn, 1, 0, 0, 0, 0), 1000, 0), ((10, .aload_n 0, 1, 0, 0, 0, 0), 5, 0), ((11, .invokevirtual 711, 3, 227, 1, 0, 809), 56, 0), ((14, .aload_n 0, 1, 0, 0, 0, 0), 5, 0), ((15, .getfield 110, 3, 0, 54, 20, 77), 50, 0)],
  [((18, .aload_n 0, 1, 0, 0, 0, 0), 5, 0), ((19, .getfield 726, 3, 0, 56, 0, 265), 50, 0), ((22, .iconst 1, 1, 1, 0, 0, 0), 12, 0), ((23, .isub, 1, 0, 0, 0, 0), 17, 0), ((24, .aload_n 0, 1, 0, 0, 0, 0), 5, 0), ((25, .bipush 22, 2, 22, 0, 0, 0), 13, 0), ((27, .iconst (-1), 1, 4294967295, 0, 0, 0), 12, 0), ((28, .iconst 0, 1, 0, 0, 0, 0), 12, 0), ((29, .iconst 0, 1, 0, 0, 0, 0), 12, 0), ((30, .invokevirtual 682, 3, 30, 5, 0, 269), 56, 0)],
  [((33, .iastore, 1, 0, 0, 0, 0), 53, 0), ((34, .aload_n 0, 1, 0, 0, 0, 0), 5, 0), ((35, .bipush 27, 2, 27, 0, 0, 0), 13, 0), ((37, .iload_n 1, 1, 0, 0, 0, 0), 1, 1), ((38, .aload_n 0, 1, 0, 0, 0, 0), 5, 0), ((39, .getfield 52, 3, 0, 28, 20, 57), 50, 0), ((42, .aload_n 0, 1, 0, 0, 0, 0), 5, 0), ((43, .invokevirtual 663, 3, 218, 1, 0, 803), 56, 0), ((46, .iaload, 1, 0, 0, 0, 0), 52, 0), ((47, .iconst 0, 1, 0, 0, 0, 0), 12, 0)],
  [((48, .invokevirtual 686, 3, 31, 5, 0, 270), 56, 0), ((51, .aload_n 0, 1, 0, 0, 0, 0), 5, 0), ((52, .invokevirtual 708, 3, 224, 1, 0, 808), 56, 0), ((55, .iconst 1, 1, 1, 0, 0, 0), 12, 0), ((56, .ireturn, 1, 0, 0, 0, 0), 1000, 0)]])
def al_mX12_whileEnd : ev_MeK := (al_yX12_whileEnd, prog_14_method_88_code, 4, (some .boolean), [[((0, .aload_n 0, 1, 0, 0, 0, 0), 5, 0), ((1, .bipush 6, 2, 6, 0, 0, 0), 13, 0), ((3, .invokevirtual 746, 3, 214, 2, 0, 309), 56, 0), ((6, .ifCond .ne 5, 3, 11, 0, 0, 0), 39, 0), ((9, .iconst 0, 1, 0, 0, 0, 0), 12, 0), ((10, .ireturn, 1, 0, 0, 0, 0), 1000, 0), ((11, .aload_n 0, 1, 0, 0, 0, 0), 5, 0), ((12, .bipush 21, 2, 21, 0, 0, 0), 13, 0), ((14, .iload_n 1, 1, 0, 0, 0, 0), 1, 1), ((15, .iconst 0, 1, 0, 0, 0, 0), 12, 0)],
  [((16, .iconst 0, 1, 0, 0, 0, 0), 12, 0), ((17, .invokevirtual 682, 3, 30, 5, 0, 269), 56, 0), ((20, .istore_n 3, 1, 0, 0, 0, 0), 7, 3), ((21, .aload_n 0, 1, 0, 0, 0, 0), 5, 0), ((22, .iload_n 2, 1, 0, 0, 0, 0), 1, 2), ((23, .invokevirtual 798, 3, 228, 2, 0, 831), 56, 0), ((26, .iconst 1, 1, 1, 0, 0, 0), 12, 0), ((27, .ireturn, 1, 0, 0, 0, 0), 1000, 0)]])
def al_mX12_until : ev_MeK := (al_yX12_until, prog_14_method_89_code, 5, (some .boolean), [[((0, .aload_n 0, 1, 0, 0, 0, 0), 5, 0), ((1, .bipush 20, 2, 20, 0, 0, 0), 13, 0), ((3, .invokevirtual 746, 3, 214, 2, 0, 309), 56, 0), ((6, .ifCond .ne 5, 3, 11, 0, 0, 0), 39, 0), ((9, .iconst 0, 1, 0, 0, 0, 0), 12, 0), ((10, .ireturn, 1, 0, 0, 0, 0), 1000, 0), ((11, .aload_n 0, 1, 0, 0, 0, 0), 5, 0), ((12, .iconst 0, 1, 0, 0, 0, 0), 12, 0), ((13, .iconst 0, 1, 0, 0, 0, 0), 12, 0), ((14, .iconst 0, 1, 0, 0, 0, 0), 12, 0), ((15, .iconst 0, 1, 0, 0, 0, 0), 12, 0)],
  [((16, .invokevirtual 682, 3, 30, 5, 0, 269), 56, 0), ((19, .istore 4, 2, 0, 0, 0, 0), 6, 4), ((21, .aload_n 0, 1, 0, 0, 0, 0), 5, 0), ((22, .bipush 29, 2, 29, 0, 0, 0), 13, 0), ((24, .iload_n 1, 1, 0, 0, 0, 0), 1, 1), ((25, .iload_n 2, 1, 0, 0, 0, 0), 1, 2), ((26, .iload_n 3, 1, 0, 0, 0, 0), 1, 3), ((27, .invokevirtual 686, 3, 31, 5, 0, 270), 56, 0), ((30, .aload_n 0, 1, 0, 0, 0, 0), 5, 0), ((31, .iconst 3, 1, 3, 0, 0, 0), 12, 0)],
  [((32, .iconst 0, 1, 0, 0, 0, 0), 12, 0), ((33, .iconst 0, 1, 0, 0, 0, 0), 12, 0), ((34, .iconst 0, 1, 0, 0, 0, 0), 12, 0), ((35, .invokevirtual 686, 3, 31, 5, 0, 270), 56, 0), ((38, .iconst 1, 1, 1, 0, 0, 0), 12, 0), ((39, .ireturn, 1, 0, 0, 0, 0), 1000, 0)]])
def al_mX12_untilEnd : ev_MeK := (al_yX12_untilEnd, prog_14_method_90_code, 5, (some .boolean), [[((0, .aload_n 0, 1, 0, 0, 0, 0), 5, 0), ((1, .iload_n 2, 1, 0, 0, 0, 0), 1, 2), ((2, .invokevirtual 801, 3, 225, 2, 0, 273), 56, 0), ((5, .aload_n 0, 1, 0, 0, 0, 0), 5, 0), ((6, .bipush 22, 2, 22, 0, 0, 0), 13, 0), ((8, .iload_n 1, 1, 0, 0, 0, 0), 1, 1), ((9, .iconst 0, 1, 0, 0, 0, 0), 12, 0), ((10, .iconst 0, 1, 0, 0, 0, 0), 12, 0), ((11, .invokevirtual 682, 3, 30, 5, 0, 269), 56, 0), ((14, .istore 4, 2, 0, 0, 0, 0), 6, 4)],
  [((16, .aload_n 0, 1, 0, 0, 0, 0), 5, 0), ((17, .iload_n 3, 1, 0, 0, 0, 0), 1, 3), ((18, .invokevirtual 798, 3, 228, 2, 0, 831), 56, 0), ((21, .iconst 1, 1, 1, 0, 0, 0), 12, 0), ((22, .ireturn, 1, 0, 0, 0, 0), 1000, 0)]])
def al_mX12_forTwo : ev_MeK := (al_yX12_forTwo, prog_14_method_91_code, 4, (some .boolean), [[((0, .aload_n 0, 1, 0, 0, 0, 0), 5, 0), ((1, .bipush 44, 2, 44, 0, 0, 0), 13, 0), ((3, .invokevirtual 792, 3, 213, 2, 0, 283), 56, 0), ((6, .ifCond .ne 5, 3, 11, 0, 0, 0), 39, 0), ((9, .iconst 0, 1, 0, 0, 0, 0), 12, 0), ((10, .ireturn, 1, 0, 0, 0, 0), 1000, 0), ((11, .aload_n 0, 1, 0, 0, 0, 0), 5, 0), ((12, .bipush 32, 2, 32, 0, 0, 0), 13, 0), ((14, .iload_n 1, 1, 0, 0, 0, 0), 1, 1), ((15, .iload_n 2, 1, 0, 0, 0, 0), 1, 2)],
  [((16, .iload_n 3, 1, 0, 0, 0, 0), 1, 3), ((17, .invokevirtual 686, 3, 31, 5, 0, 270), 56, 0), ((20, .aload_n 0, 1, 0, 0, 0, 0), 5, 0), ((21, .iconst 3, 1, 3, 0, 0, 0), 12, 0), ((22, .iconst 0, 1, 0, 0, 0, 0), 12, 0), ((23, .iconst 0, 1, 0, 0, 0, 0), 12, 0), ((24, .iconst 0, 1, 0, 0, 0, 0), 12, 0), ((25, .invokevirtual 686, 3, 31, 5, 0, 270), 56, 0), ((28, .iconst 1, 1, 1, 0, 0, 0), 12, 0), ((29, .ireturn, 1, 0, 0, 0, 0), 1000, 0)]])
def al_mX12_forThree : ev_MeK := (al_yX12_forThree, prog_14_method_92_code, 5, (some .boolean), [[((0, .aload_n 0, 1, 0, 0, 0, 0), 5, 0), ((1, .bipush 44, 2, 44, 0, 0, 0), 13, 0), ((3, .invokevirtual 635, 3, 36, 2, 0, 299), 56, 0), ((6, .ifCond .eq 25, 3, 31, 0, 0, 0), 38, 0), ((9, .aload_n 0, 1, 0, 0, 0, 0), 5, 0), ((10, .bipush 33, 2, 33, 0, 0, 0), 13, 0), ((12, .iload_n 1, 1, 0, 0, 0, 0), 1, 1), ((13, .iload_n 2, 1, 0, 0, 0, 0), 1, 2), ((14, .iload_n 3, 1, 0, 0, 0, 0), 1, 3), ((15, .invokevirtual 686, 3, 31, 5, 0, 270), 56, 0)],
  [((18, .aload_n 0, 1, 0, 0, 0, 0), 5, 0), ((19, .iconst 3, 1, 3, 0, 0, 0), 12, 0), ((20, .iconst 0, 1, 0, 0, 0, 0), 12, 0), ((21, .iconst 0, 1, 0, 0, 0, 0), 12, 0), ((22, .iconst 0, 1, 0, 0, 0, 0), 12, 0), ((23, .invokevirtual 686, 3, 31, 5, 0, 270), 56, 0), ((26, .aload_n 0, 1, 0, 0, 0, 0), 5, 0), ((27, .invokevirtual 638, 3, 212, 1, 0, 294), 56, 0), ((30, .ireturn, 1, 0, 0, 0, 0), 1000, 0), ((31, .aload_n 0, 1, 0, 0, 0, 0), 5, 0)],
  [((32, .getfield 83, 3, 0, 39, 20, 68), 50, 0), ((35, .aload_n 0, 1, 0, 0, 0, 0), 5, 0), ((36, .getfield 758, 3, 0, 40, 0, 268), 50, 0), ((39, .lconst 1, 1, 0, 0, 0, 0), 15, 1), ((40, .lastore, 1, 0, 0, 0, 0), 58, 0), ((41, .aload_n 0, 1, 0, 0, 0, 0), 5, 0), ((42, .iconst 4, 1, 4, 0, 0, 0), 12, 0), ((43, .aload_n 0, 1, 0, 0, 0, 0), 5, 0), ((44, .getfield 758, 3, 0, 40, 0, 268), 50, 0), ((47, .iconst 0, 1, 0, 0, 0, 0), 12, 0)],
  [((48, .iconst 0, 1, 0, 0, 0, 0), 12, 0), ((49, .invokevirtual 682, 3, 30, 5, 0, 269), 56, 0), ((52, .istore 4, 2, 0, 0, 0, 0), 6, 4), ((54, .aload_n 0, 1, 0, 0, 0, 0), 5, 0), ((55, .dup, 1, 0, 0, 0, 0), 35, 0), ((56, .getfield 758, 3, 0, 40, 0, 268), 50, 0), ((59, .iconst 1, 1, 1, 0, 0, 0), 12, 0), ((60, .iadd, 1, 0, 0, 0, 0), 16, 0), ((61, .putfield 758, 3, 0, 40, 0, 268), 51, 0)],
  [((64, .aload_n 0, 1, 0, 0, 0, 0), 5, 0), ((65, .iload_n 1, 1, 0, 0, 0, 0), 1, 1), ((66, .iload_n 2, 1, 0, 0, 0, 0), 1, 2), ((67, .iload_n 3, 1, 0, 0, 0, 0), 1, 3), ((68, .invokevirtual 804, 3, 267, 4, 0, 312), 56, 0), ((71, .ireturn, 1, 0, 0, 0, 0), 1000, 0)]])
def al_mX12_forDo : ev_MeK := (al_yX12_forDo, prog_14_method_93_code, 6, (some .boolean), [[((0, .aload_n 0, 1, 0, 0, 0, 0), 5, 0), ((1, .iconst 3, 1, 3, 0, 0, 0), 12, 0), ((2, .invokevirtual 746, 3, 214, 2, 0, 309), 56, 0), ((5, .ifCond .ne 5, 3, 10, 0, 0, 0), 39, 0), ((8, .iconst 0, 1, 0, 0, 0, 0), 12, 0), ((9, .ireturn, 1, 0, 0, 0, 0), 1000, 0), ((10, .aload_n 0, 1, 0, 0, 0, 0), 5, 0), ((11, .bipush 39, 2, 39, 0, 0, 0), 13, 0), ((13, .iconst 0, 1, 0, 0, 0, 0), 12, 0), ((14, .iconst 0, 1, 0, 0, 0, 0), 12, 0), ((15, .iload_n 1, 1, 0, 0, 0, 0), 1, 1)],
  [((16, .invokevirtual 682, 3, 30, 5, 0, 269), 56, 0), ((19, .istore 4, 2, 0, 0, 0, 0), 6, 4), ((21, .aload_n 0, 1, 0, 0, 0, 0), 5, 0), ((22, .iconst 0, 1, 0, 0, 0, 0), 12, 0), ((23, .iconst 0, 1, 0, 0, 0, 0), 12, 0), ((24, .iconst 0, 1, 0, 0, 0, 0), 12, 0), ((25, .iconst 0, 1, 0, 0, 0, 0), 12, 0), ((26, .invokevirtual 682, 3, 30, 5, 0, 269), 56, 0), ((29, .istore 5, 2, 0, 0, 0, 0), 6, 5), ((31, .aload_n 0, 1, 0, 0, 0, 0), 5, 0)],
  [((32, .invokevirtual 711, 3, 227, 1, 0, 809), 56, 0), ((35, .aload_n 0, 1, 0, 0, 0, 0), 5, 0), ((36, .getfield 110, 3, 0, 54, 20, 77), 50, 0), ((39, .aload_n 0, 1, 0, 0, 0, 0), 5, 0), ((40, .getfield 726, 3, 0, 56, 0, 265), 50, 0), ((43, .iconst 1, 1, 1, 0, 0, 0), 12, 0), ((44, .isub, 1, 0, 0, 0, 0), 17, 0), ((45, .aload_n 0, 1, 0, 0, 0, 0), 5, 0), ((46, .bipush 40, 2, 40, 0, 0, 0), 13, 0)],
  [((48, .iconst (-1), 1, 4294967295, 0, 0, 0), 12, 0), ((49, .iload_n 3, 1, 0, 0, 0, 0), 1, 3), ((50, .iconst 0, 1, 0, 0, 0, 0), 12, 0), ((51, .invokevirtual 682, 3, 30, 5, 0, 269), 56, 0), ((54, .iastore, 1, 0, 0, 0, 0), 53, 0), ((55, .aload_n 0, 1, 0, 0, 0, 0), 5, 0), ((56, .bipush 34, 2, 34, 0, 0, 0), 13, 0), ((58, .iload 5, 2, 0, 0, 0, 0), 0, 5), ((60, .iload_n 3, 1, 0, 0, 0, 0), 1, 3), ((61, .aload_n 0, 1, 0, 0, 0, 0), 5, 0), ((62, .getfield 666, 3, 0, 50, 0, 263), 50, 0)],
  [((65, .invokevirtual 686, 3, 31, 5, 0, 270), 56, 0), ((68, .aload_n 0, 1, 0, 0, 0, 0), 5, 0), ((69, .aload_n 0, 1, 0, 0, 0, 0), 5, 0), ((70, .getfield 42, 3, 0, 23, 20, 54), 50, 0), ((73, .iload_n 2, 1, 0, 0, 0, 0), 1, 2), ((74, .laload, 1, 0, 0, 0, 0), 58, 0), ((75, .l2i, 1, 0, 0, 0, 0), 33, 0), ((76, .iload_n 3, 1, 0, 0, 0, 0), 1, 3), ((77, .invokevirtual 732, 3, 220, 3, 0, 815), 56, 0)],
  [((80, .aload_n 0, 1, 0, 0, 0, 0), 5, 0), ((81, .iconst 0, 1, 0, 0, 0, 0), 12, 0), ((82, .iconst 0, 1, 0, 0, 0, 0), 12, 0), ((83, .iconst 0, 1, 0, 0, 0, 0), 12, 0), ((84, .iconst 0, 1, 0, 0, 0, 0), 12, 0), ((85, .invokevirtual 686, 3, 31, 5, 0, 270), 56, 0), ((88, .iconst 1, 1, 1, 0, 0, 0), 12, 0), ((89, .ireturn, 1, 0, 0, 0, 0), 1000, 0)]])
def al_mX12_forEnd : ev_MeK := (al_yX12_forEnd, prog_14_method_94_code, 5, (some .boolean), [[((0, .aload_n 0, 1, 0, 0, 0, 0), 5, 0), ((1, .bipush 6, 2, 6, 0, 0, 0), 13, 0), ((3, .invokevirtual 746, 3, 214, 2, 0, 309), 56, 0), ((6, .ifCond .ne 5, 3, 11, 0, 0, 0), 39, 0), ((9, .iconst 0, 1, 0, 0, 0, 0), 12, 0), ((10, .ireturn, 1, 0, 0, 0, 0), 1000, 0), ((11, .aload_n 0, 1, 0, 0, 0, 0), 5, 0), ((12, .iload_n 3, 1, 0, 0, 0, 0), 1, 3), ((13, .invokevirtual 801, 3, 225, 2, 0, 273), 56, 0)],
  [((16, .aload_n 0, 1, 0, 0, 0, 0), 5, 0), ((17, .getfield 110, 3, 0, 54, 20, 77), 50, 0), ((20, .aload_n 0, 1, 0, 0, 0, 0), 5, 0), ((21, .getfield 726, 3, 0, 56, 0, 265), 50, 0), ((24, .iconst 1, 1, 1, 0, 0, 0), 12, 0), ((25, .isub, 1, 0, 0, 0, 0), 17, 0), ((26, .aload_n 0, 1, 0, 0, 0, 0), 5, 0), ((27, .bipush 41, 2, 41, 0, 0, 0), 13, 0), ((29, .aload_n 0, 1, 0, 0, 0, 0), 5, 0), ((30, .getfield 110, 3, 0, 54, 20, 77), 50, 0)],
  [((33, .aload_n 0, 1, 0, 0, 0, 0), 5, 0), ((34, .getfield 726, 3, 0, 56, 0, 265), 50, 0), ((37, .iconst 1, 1, 1, 0, 0, 0), 12, 0), ((38, .isub, 1, 0, 0, 0, 0), 17, 0), ((39, .iaload, 1, 0, 0, 0, 0), 52, 0), ((40, .iload_n 1, 1, 0, 0, 0, 0), 1, 1), ((41, .iconst 0, 1, 0, 0, 0, 0), 12, 0), ((42, .invokevirtual 682, 3, 30, 5, 0, 269), 56, 0), ((45, .iastore, 1, 0, 0, 0, 0), 53, 0), ((46, .aload_n 0, 1, 0, 0, 0, 0), 5, 0), ((47, .iload_n 2, 1, 0, 0, 0, 0), 1, 2)],
  [((48, .invokevirtual 798, 3, 228, 2, 0, 831), 56, 0), ((51, .aload_n 0, 1, 0, 0, 0, 0), 5, 0), ((52, .bipush 44, 2, 44, 0, 0, 0), 13, 0), ((54, .iconst 3, 1, 3, 0, 0, 0), 12, 0), ((55, .iconst 0, 1, 0, 0, 0, 0), 12, 0), ((56, .iconst 0, 1, 0, 0, 0, 0), 12, 0), ((57, .invokevirtual 682, 3, 30, 5, 0, 269), 56, 0), ((60, .istore 4, 2, 0, 0, 0, 0), 6, 4), ((62, .iconst 1, 1, 1, 0, 0, 0), 12, 0), ((63, .ireturn, 1, 0, 0, 0, 0), 1000, 0)]])
def al_mX12_inDo : ev_MeK := (al_yX12_inDo, prog_14_method_95_code, 9, (some .boolean), [[((0, .aload_n 0, 1, 0, 0, 0, 0), 5, 0), ((1, .iconst 3, 1, 3, 0, 0, 0), 12, 0), ((2, .invokevirtual 746, 3, 214, 2, 0, 309), 56, 0), ((5, .ifCond .ne 5, 3, 10, 0, 0, 0), 39, 0), ((8, .iconst 0, 1, 0, 0, 0, 0), 12, 0), ((9, .ireturn, 1, 0, 0, 0, 0), 1000, 0), ((10, .iload_n 3, 1, 0, 0, 0, 0), 1, 3), ((11, .bipush 100, 2, 100, 0, 0, 0), 13, 0), ((13, .idiv, 1, 0, 0, 0, 0), 58, 0), ((14, .istore 4, 2, 0, 0, 0, 0), 6, 4)],
  [((16, .iload_n 3, 1, 0, 0, 0, 0), 1, 3), ((17, .bipush 100, 2, 100, 0, 0, 0), 13, 0), ((19, .irem, 1, 0, 0, 0, 0), 58, 0), ((20, .istore 5, 2, 0, 0, 0, 0), 6, 5), ((22, .aload_n 0, 1, 0, 0, 0, 0), 5, 0), ((23, .bipush 17, 2, 17, 0, 0, 0), 13, 0), ((25, .iconst 0, 1, 0, 0, 0, 0), 12, 0), ((26, .iconst 0, 1, 0, 0, 0, 0), 12, 0), ((27, .iload_n 1, 1, 0, 0, 0, 0), 1, 1), ((28, .invokevirtual 682, 3, 30, 5, 0, 269), 56, 0), ((31, .istore 6, 2, 0, 0, 0, 0), 6, 6)],
  [((33, .aload_n 0, 1, 0, 0, 0, 0), 5, 0), ((34, .bipush 18, 2, 18, 0, 0, 0), 13, 0), ((36, .iconst 3, 1, 3, 0, 0, 0), 12, 0), ((37, .iconst 0, 1, 0, 0, 0, 0), 12, 0), ((38, .iconst 0, 1, 0, 0, 0, 0), 12, 0), ((39, .invokevirtual 682, 3, 30, 5, 0, 269), 56, 0), ((42, .istore 6, 2, 0, 0, 0, 0), 6, 6), ((44, .aload_n 0, 1, 0, 0, 0, 0), 5, 0), ((45, .iconst 0, 1, 0, 0, 0, 0), 12, 0), ((46, .iconst 0, 1, 0, 0, 0, 0), 12, 0), ((47, .iconst 0, 1, 0, 0, 0, 0), 12, 0)],
  [((48, .iconst 0, 1, 0, 0, 0, 0), 12, 0), ((49, .invokevirtual 682, 3, 30, 5, 0, 269), 56, 0), ((52, .istore 7, 2, 0, 0, 0, 0), 6, 7), ((54, .aload_n 0, 1, 0, 0, 0, 0), 5, 0), ((55, .bipush 42, 2, 42, 0, 0, 0), 13, 0), ((57, .iload 4, 2, 0, 0, 0, 0), 0, 4), ((59, .iconst 0, 1, 0, 0, 0, 0), 12, 0), ((60, .iload_n 1, 1, 0, 0, 0, 0), 1, 1), ((61, .invokevirtual 682, 3, 30, 5, 0, 269), 56, 0)],
  [((64, .istore 6, 2, 0, 0, 0, 0), 6, 6), ((66, .aload_n 0, 1, 0, 0, 0, 0), 5, 0), ((67, .invokevirtual 711, 3, 227, 1, 0, 809), 56, 0), ((70, .aload_n 0, 1, 0, 0, 0, 0), 5, 0), ((71, .getfield 110, 3, 0, 54, 20, 77), 50, 0), ((74, .aload_n 0, 1, 0, 0, 0, 0), 5, 0), ((75, .getfield 726, 3, 0, 56, 0, 265), 50, 0), ((78, .iconst 1, 1, 1, 0, 0, 0), 12, 0), ((79, .isub, 1, 0, 0, 0, 0), 17, 0)],
  [((80, .aload_n 0, 1, 0, 0, 0, 0), 5, 0), ((81, .bipush 43, 2, 43, 0, 0, 0), 13, 0), ((83, .iconst (-1), 1, 4294967295, 0, 0, 0), 12, 0), ((84, .iload 4, 2, 0, 0, 0, 0), 0, 4), ((86, .bipush 100, 2, 100, 0, 0, 0), 13, 0), ((88, .imul, 1, 0, 0, 0, 0), 18, 0), ((89, .iload 5, 2, 0, 0, 0, 0), 0, 5), ((91, .iadd, 1, 0, 0, 0, 0), 16, 0), ((92, .iconst 0, 1, 0, 0, 0, 0), 12, 0), ((93, .invokevirtual 682, 3, 30, 5, 0, 269), 56, 0)],
  [((96, .iastore, 1, 0, 0, 0, 0), 53, 0), ((97, .aload_n 0, 1, 0, 0, 0, 0), 5, 0), ((98, .bipush 36, 2, 36, 0, 0, 0), 13, 0), ((100, .iload 7, 2, 0, 0, 0, 0), 0, 7), ((102, .iload 5, 2, 0, 0, 0, 0), 0, 5), ((104, .aload_n 0, 1, 0, 0, 0, 0), 5, 0), ((105, .getfield 666, 3, 0, 50, 0, 263), 50, 0), ((108, .invokevirtual 686, 3, 31, 5, 0, 270), 56, 0), ((111, .iconst 0, 1, 0, 0, 0, 0), 12, 0)],
  [((112, .istore 8, 2, 0, 0, 0, 0), 6, 8), ((114, .iload 8, 2, 0, 0, 0, 0), 0, 8), ((116, .iload 4, 2, 0, 0, 0, 0), 0, 4), ((118, .if_icmp .ge 30, 3, 148, 0, 0, 0), 47, 0), ((121, .aload_n 0, 1, 0, 0, 0, 0), 5, 0), ((122, .aload_n 0, 1, 0, 0, 0, 0), 5, 0), ((123, .getfield 42, 3, 0, 23, 20, 54), 50, 0), ((126, .iload_n 2, 1, 0, 0, 0, 0), 1, 2), ((127, .iconst 2, 1, 2, 0, 0, 0), 12, 0)],
  [((128, .iload 8, 2, 0, 0, 0, 0), 0, 8), ((130, .imul, 1, 0, 0, 0, 0), 18, 0), ((131, .iadd, 1, 0, 0, 0, 0), 16, 0), ((132, .laload, 1, 0, 0, 0, 0), 58, 0), ((133, .l2i, 1, 0, 0, 0, 0), 33, 0), ((134, .iload 5, 2, 0, 0, 0, 0), 0, 5), ((136, .iload 8, 2, 0, 0, 0, 0), 0, 8), ((138, .iadd, 1, 0, 0, 0, 0), 16, 0), ((139, .invokevirtual 732, 3, 220, 3, 0, 815), 56, 0), ((142, .iinc 8 1, 3, 1, 0, 0, 0), 36, 8)],
  [((145, .goto (-31), 3, 114, 0, 0, 0), 37, 0), ((148, .aload_n 0, 1, 0, 0, 0, 0), 5, 0), ((149, .iconst 0, 1, 0, 0, 0, 0), 12, 0), ((150, .iconst 0, 1, 0, 0, 0, 0), 12, 0), ((151, .iconst 0, 1, 0, 0, 0, 0), 12, 0), ((152, .iconst 0, 1, 0, 0, 0, 0), 12, 0), ((153, .invokevirtual 686, 3, 31, 5, 0, 270), 56, 0), ((156, .iconst 1, 1, 1, 0, 0, 0), 12, 0), ((157, .ireturn, 1, 0, 0, 0, 0), 1000, 0)]])
def al_mX12_inEnd : ev_MeK := (al_yX12_inEnd, prog_14_method_96_code, 5, (some .boolean), [[((0, .aload_n 0, 1, 0, 0, 0, 0), 5, 0), ((1, .bipush 6, 2, 6, 0, 0, 0), 13, 0), ((3, .invokevirtual 746, 3, 214, 2, 0, 309), 56, 0), ((6, .ifCond .ne 5, 3, 11, 0, 0, 0), 39, 0), ((9, .iconst 0, 1, 0, 0, 0, 0), 12, 0), ((10, .ireturn, 1, 0, 0, 0, 0), 1000, 0), ((11, .aload_n 0, 1, 0, 0, 0, 0), 5, 0), ((12, .iload_n 3, 1, 0, 0, 0, 0), 1, 3), ((13, .invokevirtual 801, 3, 225, 2, 0, 273), 56, 0)],
  [((16, .aload_n 0, 1, 0, 0, 0, 0), 5, 0), ((17, .bipush 21, 2, 21, 0, 0, 0), 13, 0), ((19, .iload_n 1, 1, 0, 0, 0, 0), 1, 1), ((20, .iconst 0, 1, 0, 0, 0, 0), 12, 0), ((21, .iconst 0, 1, 0, 0, 0, 0), 12, 0), ((22, .invokevirtual 682, 3, 30, 5, 0, 269), 56, 0), ((25, .istore 4, 2, 0, 0, 0, 0), 6, 4), ((27, .aload_n 0, 1, 0, 0, 0, 0), 5, 0), ((28, .iload_n 2, 1, 0, 0, 0, 0), 1, 2), ((29, .invokevirtual 798, 3, 228, 2, 0, 831), 56, 0)],
  [((32, .aload_n 0, 1, 0, 0, 0, 0), 5, 0), ((33, .bipush 44, 2, 44, 0, 0, 0), 13, 0), ((35, .iconst 3, 1, 3, 0, 0, 0), 12, 0), ((36, .iconst 0, 1, 0, 0, 0, 0), 12, 0), ((37, .iconst 0, 1, 0, 0, 0, 0), 12, 0), ((38, .invokevirtual 682, 3, 30, 5, 0, 269), 56, 0), ((41, .istore 4, 2, 0, 0, 0, 0), 6, 4), ((43, .iconst 1, 1, 1, 0, 0, 0), 12, 0), ((44, .ireturn, 1, 0, 0, 0, 0), 1000, 0)]])
def al_mX12_returned : ev_MeK := (al_yX12_returned, prog_14_method_97_code, 3, (some .boolean), [[((0, .aload_n 0, 1, 0, 0, 0, 0), 5, 0), ((1, .bipush 17, 2, 17, 0, 0, 0), 13, 0), ((3, .iconst 0, 1, 0, 0, 0, 0), 12, 0), ((4, .iconst 0, 1, 0, 0, 0, 0), 12, 0), ((5, .iload_n 1, 1, 0, 0, 0, 0), 1, 1), ((6, .invokevirtual 682, 3, 30, 5, 0, 269), 56, 0), ((9, .istore_n 2, 1, 0, 0, 0, 0), 7, 2), ((10, .aload_n 0, 1, 0, 0, 0, 0), 5, 0), ((11, .bipush 38, 2, 38, 0, 0, 0), 13, 0), ((13, .iconst 0, 1, 0, 0, 0, 0), 12, 0), ((14, .iconst 0, 1, 0, 0, 0, 0), 12, 0), ((15, .iconst 0, 1, 0, 0, 0, 0), 12, 0)],
  [((16, .invokevirtual 682, 3, 30, 5, 0, 269), 56, 0), ((19, .istore_n 2, 1, 0, 0, 0, 0), 7, 2), ((20, .aload_n 0, 1, 0, 0, 0, 0), 5, 0), ((21, .bipush 59, 2, 59, 0, 0, 0), 13, 0), ((23, .invokevirtual 635, 3, 36, 2, 0, 299), 56, 0), ((26, .ifCond .eq 10, 3, 36, 0, 0, 0), 38, 0), ((29, .aload_n 0, 1, 0, 0, 0, 0), 5, 0), ((30, .invokevirtual 638, 3, 212, 1, 0, 294), 56, 0)],
  [((33, .ifCond .eq 7, 3, 40, 0, 0, 0), 38, 0), ((36, .iconst 1, 1, 1, 0, 0, 0), 12, 0), ((37, .goto 4, 3, 41, 0, 0, 0), 37, 0), ((40, .iconst 0, 1, 0, 0, 0, 0), 12, 0), ((41, .ireturn, 1, 0, 0, 0, 0), 1000, 0)]])
def al_mX12_functionDone : ev_MeK := (al_yX12_functionDone, prog_14_method_98_code, 5, (some .boolean), [[((0, .iconst 0, 1, 0, 0, 0, 0), 12, 0), ((1, .istore 4, 2, 0, 0, 0, 0), 6, 4), ((3, .iload_n 1, 1, 0, 0, 0, 0), 1, 1), ((4, .iconst 3, 1, 3, 0, 0, 0), 12, 0), ((5, .if_icmp .ne 17, 3, 22, 0, 0, 0), 45, 0), ((8, .aload_n 0, 1, 0, 0, 0, 0), 5, 0), ((9, .bipush 13, 2, 13, 0, 0, 0), 13, 0), ((11, .iconst 0, 1, 0, 0, 0, 0), 12, 0), ((12, .iconst 0, 1, 0, 0, 0, 0), 12, 0), ((13, .iload_n 3, 1, 0, 0, 0, 0), 1, 3), ((14, .invokevirtual 682, 3, 30, 5, 0, 269), 56, 0)],
  [((17, .istore 4, 2, 0, 0, 0, 0), 6, 4), ((19, .goto 16, 3, 35, 0, 0, 0), 37, 0), ((22, .aload_n 0, 1, 0, 0, 0, 0), 5, 0), ((23, .bipush 9, 2, 9, 0, 0, 0), 13, 0), ((25, .iload_n 1, 1, 0, 0, 0, 0), 1, 1), ((26, .iadd, 1, 0, 0, 0, 0), 16, 0), ((27, .iload_n 2, 1, 0, 0, 0, 0), 1, 2), ((28, .iconst 0, 1, 0, 0, 0, 0), 12, 0), ((29, .iconst 0, 1, 0, 0, 0, 0), 12, 0), ((30, .invokevirtual 682, 3, 30, 5, 0, 269), 56, 0)],
  [((33, .istore 4, 2, 0, 0, 0, 0), 6, 4), ((35, .aload_n 0, 1, 0, 0, 0, 0), 5, 0), ((36, .bipush 47, 2, 47, 0, 0, 0), 13, 0), ((38, .iconst 0, 1, 0, 0, 0, 0), 12, 0), ((39, .iconst 0, 1, 0, 0, 0, 0), 12, 0), ((40, .iconst 0, 1, 0, 0, 0, 0), 12, 0), ((41, .invokevirtual 682, 3, 30, 5, 0, 269), 56, 0), ((44, .istore 4, 2, 0, 0, 0, 0), 6, 4), ((46, .iconst 1, 1, 1, 0, 0, 0), 12, 0), ((47, .ireturn, 1, 0, 0, 0, 0), 1000, 0)]])
def al_mX12_closeParen : ev_MeK := (al_yX12_closeParen, prog_14_method_99_code, 1, (some .boolean), [[((0, .aload_n 0, 1, 0, 0, 0, 0), 5, 0), ((1, .iconst 5, 1, 5, 0, 0, 0), 12, 0), ((2, .putfield 676, 3, 0, 61, 0, 806), 51, 0), ((5, .aload_n 0, 1, 0, 0, 0, 0), 5, 0), ((6, .bipush 8, 2, 8, 0, 0, 0), 13, 0), ((8, .iconst 0, 1, 0, 0, 0, 0), 12, 0), ((9, .iconst 0, 1, 0, 0, 0, 0), 12, 0), ((10, .iconst 0, 1, 0, 0, 0, 0), 12, 0), ((11, .invokevirtual 686, 3, 31, 5, 0, 270), 56, 0), ((14, .aload_n 0, 1, 0, 0, 0, 0), 5, 0), ((15, .bipush 41, 2, 41, 0, 0, 0), 13, 0)],
  [((17, .invokevirtual 792, 3, 213, 2, 0, 283), 56, 0), ((20, .ireturn, 1, 0, 0, 0, 0), 1000, 0)]])
def al_mX12_closeBracket : ev_MeK := (al_yX12_closeBracket, prog_14_method_100_code, 2, (some .boolean), [[((0, .aload_n 0, 1, 0, 0, 0, 0), 5, 0), ((1, .iconst 3, 1, 3, 0, 0, 0), 12, 0), ((2, .putfield 676, 3, 0, 61, 0, 806), 51, 0), ((5, .aload_n 0, 1, 0, 0, 0, 0), 5, 0), ((6, .iload_n 1, 1, 0, 0, 0, 0), 1, 1), ((7, .putfield 669, 3, 0, 63, 0, 804), 51, 0), ((10, .aload_n 0, 1, 0, 0, 0, 0), 5, 0), ((11, .bipush 8, 2, 8, 0, 0, 0), 13, 0), ((13, .iconst 0, 1, 0, 0, 0, 0), 12, 0), ((14, .iconst 0, 1, 0, 0, 0, 0), 12, 0), ((15, .iconst 0, 1, 0, 0, 0, 0), 12, 0)],
  [((16, .invokevirtual 686, 3, 31, 5, 0, 270), 56, 0), ((19, .aload_n 0, 1, 0, 0, 0, 0), 5, 0), ((20, .bipush 93, 2, 93, 0, 0, 0), 13, 0), ((22, .invokevirtual 792, 3, 213, 2, 0, 283), 56, 0), ((25, .ireturn, 1, 0, 0, 0, 0), 1000, 0)]])
def al_mX12_chainValue : ev_MeK := (al_yX12_chainValue, prog_14_method_101_code, 1, (some .boolean), [[((0, .aload_n 0, 1, 0, 0, 0, 0), 5, 0), ((1, .iconst (-1), 1, 4294967295, 0, 0, 0), 12, 0), ((2, .putfield 755, 3, 0, 64, 0, 820), 51, 0), ((5, .aload_n 0, 1, 0, 0, 0, 0), 5, 0), ((6, .getfield 676, 3, 0, 61, 0, 806), 50, 0), ((9, .iconst 4, 1, 4, 0, 0, 0), 12, 0), ((10, .if_icmp .ne 14, 3, 24, 0, 0, 0), 45, 0), ((13, .aload_n 0, 1, 0, 0, 0, 0), 5, 0), ((14, .aload_n 0, 1, 0, 0, 0, 0), 5, 0), ((15, .getfield 679, 3, 0, 62, 0, 807), 50, 0)],
  [((18, .putfield 755, 3, 0, 64, 0, 820), 51, 0), ((21, .goto 7, 3, 28, 0, 0, 0), 37, 0), ((24, .aload_n 0, 1, 0, 0, 0, 0), 5, 0), ((25, .invokevirtual 743, 3, 223, 1, 0, 817), 56, 0), ((28, .iconst 1, 1, 1, 0, 0, 0), 12, 0), ((29, .ireturn, 1, 0, 0, 0, 0), 1000, 0)]])
def al_mX12_called : ev_MeK := (al_yX12_called, prog_14_method_102_code, 2, (some .boolean), [[((0, .aload_n 0, 1, 0, 0, 0, 0), 5, 0), ((1, .aload_n 0, 1, 0, 0, 0, 0), 5, 0), ((2, .bipush 16, 2, 16, 0, 0, 0), 13, 0), ((4, .iconst 1, 1, 1, 0, 0, 0), 12, 0), ((5, .iconst 0, 1, 0, 0, 0, 0), 12, 0), ((6, .iload_n 1, 1, 0, 0, 0, 0), 1, 1), ((7, .invokevirtual 682, 3, 30, 5, 0, 269), 56, 0), ((10, .putfield 679, 3, 0, 62, 0, 807), 51, 0), ((13, .aload_n 0, 1, 0, 0, 0, 0), 5, 0), ((14, .iconst 4, 1, 4, 0, 0, 0), 12, 0), ((15, .putfield 676, 3, 0, 61, 0, 806), 51, 0)],
  [((18, .iconst 1, 1, 1, 0, 0, 0), 12, 0), ((19, .ireturn, 1, 0, 0, 0, 0), 1000, 0)]])
def al_mkK : List (ev_MeK × Nat) := [(al_mX8_put, 0), (al_mJ0_charAt_5068e, 0), (al_mJ0_isLatin1_aae02, 0), (al_mJ1_charAt_3b067, 1), (al_mJ0_checkIndex_df160, 1), (al_mJ3_checkIndex_8e157, 1), (al_mJ0_length_8abf5, 0), (al_mJ0_coder_7d493, 0), (al_mX8_find, 0), (al_mX8_add, 0), (al_mX8_begin, 0), (al_mX8_keepLatent, 0), (al_mX8_keepFixed, 0), (al_mX8_putWords, 0), (al_mX1_latent, 0), (al_mX1_fixed, 0), (al_mX12_init, 2), (al_mX12_internBuilt, 0), (al_mX12_internTypes, 0), (al_mX12_internNames, 0), (al_mX12_hidden, 0), (al_mX12_word, 0), (al_mX12_intern, 0), (al_mX12_hashOf, 0), (al_mX12_compile, 0), (al_mX12_forgetFrom, 0), (al_mX12_readTokens, 0), (al_mX12_skip, 0), (al_mX12_at, 0), (al_mX12_readText, 0), (al_mX12_emit, 0), (al_mX12_later, 0), (al_mX12_goOn, 0), (al_mX12_readBlock, 0), (al_mX12_isWord, 0), (al_mX12_beginsStatement, 0), (al_mX12_isSign, 0), (al_mX12_goOnStatement, 0), (al_mX12_reload, 0), (al_mX12_fill, 0), (al_mX12_set, 0), (al_mX12_placeOf, 0), (al_mX12_keyHash, 1), (al_mX12_object, 0), (al_mX12_how, 0), (al_mX12_openFrame, 0), (al_mX12_forget, 0), (al_mX11_init, 2), (al_mX11_compile, 0), (al_mX11_forget, 0), (al_mX8_init, 2), (al_mX8_keepNames, 0), (al_mX8_dropText, 0), (al_mX8_dropMade, 0), (al_mX8_cutTo, 0), (al_mX6_init, 2), (al_mX6_clear, 0), (al_mX6_addFunction, 0), (al_mX6_emit, 0), (al_mX9_init, 2), (al_mX9_clear, 0), (al_mX9_open, 0), (al_mX9_find, 0), (al_mX9_put, 0), (al_mX9_add, 0), (al_mX3_init, 2), (al_mX3_clear, 0), (al_mX3_make, 0), (al_mX5_init, 2), (al_mX5_open, 0), (al_mX5_enter, 0), (al_mX10_init, 2), (al_mX10_open, 0), (al_mX10_begin, 0), (al_mX10_behindBlanks, 0), (al_mX4_init, 2), (al_mX4_judge, 0), (al_mX4_next, 0), (al_mX4_emit, 0), (al_mX4_startsStatement, 0), (al_mX4_block, 0), (al_mX7_init, 2), (al_mX7_clear, 0), (al_mX7_enter, 0), (al_mX7_height, 0), (al_mX0_init, 2), (al_mX0_clear, 0), (al_mX2_init, 2), (al_mX2_reset, 0), (al_mX1_init, 2), (al_mX1_keepNames, 0), (al_mX1_furnish, 0), (al_mX1_newTable, 0), (al_mJ0_indexOf_0f7a4, 0), (al_mJ0_indexOf_7cf53, 0), (al_mJ0_substring_b52d3, 0), (al_mJ0_substring_37a41, 0), (al_mJ0_init_031fb, 2), (al_mJ0_checkBoundsBeginEnd_23922, 1), (al_mJ1_canEncode_9a6ad, 1), (al_mJ1_indexOf_4cfef, 1), (al_mJ1_indexOfChar_4cfef, 1), (al_mJ1_newString_b4f7a, 1), (al_mJ3_checkFromToIndex_8c36e, 1), (al_mJ7_fill_53178, 1), (al_mJ7_fill_031fb, 1), (al_mJ7_checkLength_df160, 1), (al_mJ7_copyOfRange_39247, 1), (al_mJ7_copyOfRangeByte_39247, 1), (al_mX4_refuse, 0), (al_mX4_expect, 0), (al_mX4_take, 0), (al_mX4_push, 0), (al_mX4_cut, 0), (al_mX4_startsExpression, 0), (al_mX4_closedBlock, 0), (al_mX4_statement, 0), (al_mX4_returnStatement, 0), (al_mX4_breakStatement, 0), (al_mX4_whileStatement, 0), (al_mX4_endLoop, 0), (al_mX4_repeatStatement, 0), (al_mX4_ifStatement, 0), (al_mX4_condition, 0), (al_mX4_newName, 0), (al_mX4_moreNames, 0), (al_mX4_forStatement, 0), (al_mX4_countingFor, 0), (al_mX4_rowFor, 0), (al_mX4_adjust, 0), (al_mX4_localStatement, 0), (al_mX4_functionStatement, 0), (al_mX4_cutIfNeeded, 0), (al_mX4_startName, 0), (al_mX4_fieldName, 0), (al_mX4_keyName, 0), (al_mX4_readTail, 0), (al_mX4_chain, 0), (al_mX4_link, 0), (al_mX4_given, 0), (al_mX4_chainStatement, 0), (al_mX4_assignment, 0), (al_mX4_notePlace, 0), (al_mX4_assign, 0), (al_mX4_row, 0), (al_mX4_strength, 0), (al_mX4_unary, 0), (al_mX4_binary, 1), (al_mX4_expression, 0), (al_mX4_operation, 0), (al_mX4_operand, 0), (al_mX4_table, 0), (al_mX4_separator, 0), (al_mX4_keyedField, 0), (al_mX4_itemField, 0), (al_mX4_body, 0), (al_mX4_parameters, 0), (al_mX6_addWhole, 0), (al_mX6_wantOfLast, 0), (al_mX6_land, 0), (al_mX7_leave, 0), (al_mX7_current, 0), (al_mX7_setHeight, 0), (al_mX7_rise, 0), (al_mX7_breaks, 0), (al_mX7_setBreaks, 0), (al_mX7_hide, 0), (al_mX7_reveal, 0), (al_mX7_close, 0), (al_mX7_resolve, 0), (al_mX7_slotOf, 0), (al_mX7_capturedOf, 0), (al_mX8_lengthOf, 0), (al_mX8_byteOf, 0), (al_mX8_has, 0), (al_mX8_compare, 0), (al_mX8_rowLength, 0), (al_mX8_rowByte, 0), (al_mX8_putPiece, 0), (al_mX8_putString, 0), (al_mX8_putWhole, 0), (al_mX8_keepTextual, 0), (al_mX8_wordOfRow, 0), (al_mX8_make, 0), (al_mX10_stop, 0), (al_mX10_assignFollows, 0), (al_mX10_byteAt, 0), (al_mX10_isDigit, 1), (al_mX10_isLetter, 1), (al_mX10_hexDigit, 1), (al_mX10_scanName, 0), (al_mX10_scanNumber, 0), (al_mX10_scanQuoted, 0), (al_mX10_escape, 0), (al_mX10_scanSign, 0), (al_mX10_pairOf, 1), (al_mX12_lineOf, 0), (al_mX12_isLetter, 1), (al_mX12_isDigit, 1), (al_mX12_hex, 1), (al_mX12_wordAt, 0), (al_mX12_wordBehind, 1), (al_mX12_readName, 0), (al_mX12_readWhole, 0), (al_mX12_escape, 0), (al_mX12_readString, 0), (al_mX12_pair, 1), (al_mX12_isAlone, 1), (al_mX12_readSign, 0), (al_mX12_fail, 0), (al_mX12_here, 0), (al_mX12_wrong, 0), (al_mX12_take, 0), (al_mX12_needSign, 0), (al_mX12_needWord, 0), (al_mX12_lineHere, 0), (al_mX12_enter, 0), (al_mX12_beginsE, 0), (al_mX12_proto, 0), (al_mX12_countLocal, 0), (al_mX12_know, 0), (al_mX12_captured, 0), (al_mX12_resolve, 0), (al_mX12_discharge, 0), (al_mX12_block, 0), (al_mX12_endScope, 0), (al_mX12_statement, 0), (al_mX12_openLoop, 0), (al_mX12_closeLoop, 0), (al_mX12_readBreak, 0), (al_mX12_readLocal, 0), (al_mX12_localRow, 0), (al_mX12_readFunction, 0), (al_mX12_readFor, 0), (al_mX12_leftOf, 1), (al_mX12_strength, 0), (al_mX12_readE, 0), (al_mX12_constant, 0), (al_mX12_operand, 0), (al_mX12_readOps, 0), (al_mX12_eventOf, 1), (al_mX12_binary, 0), (al_mX12_unary, 0), (al_mX12_chain, 0), (al_mX12_beginsGiven, 0), (al_mX12_suffix, 0), (al_mX12_given, 0), (al_mX12_row, 0), (al_mX12_table, 0), (al_mX12_fields, 0), (al_mX12_isParting, 0), (al_mX12_keyed, 0), (al_mX12_positional, 0), (al_mX12_body, 0), (al_mX12_parameters, 0), (al_mX12_bodyEnd, 0), (al_mX12_afterChain, 0), (al_mX12_assign, 0), (al_mX12_then, 0), (al_mX12_afterIf, 0), (al_mX12_endIf, 0), (al_mX12_whileDo, 0), (al_mX12_whileEnd, 0), (al_mX12_until, 0), (al_mX12_untilEnd, 0), (al_mX12_forTwo, 0), (al_mX12_forThree, 0), (al_mX12_forDo, 0), (al_mX12_forEnd, 0), (al_mX12_inDo, 0), (al_mX12_inEnd, 0), (al_mX12_returned, 0), (al_mX12_functionDone, 0), (al_mX12_closeParen, 0), (al_mX12_closeBracket, 0), (al_mX12_chainValue, 0), (al_mX12_called, 0)]
def al_mtK : List ev_MeK := al_mkK.map Prod.fst
def al_mk : List ev_Mk := al_mkK.map (fun m => (ev_unM m.1, m.2))
def al_more : List Jvm.Cond := [.fieldLink al_RX8 63 "TableTongue$Strings" "rowLength" "I",
  .fieldLink al_RX8 35 "TableTongue$Strings" "row" "[B",
  .methodLink al_RJ0 492 al_yJ0_isLatin1_aae02,
  .fieldLink al_RJ0 9 "java/lang/String" "value" "[B",
  .methodLink al_RJ0 495 al_yJ1_charAt_3b067,
  .fieldLink al_RJ0 38 "java/lang/String" "COMPACT_STRINGS" "Z",
  .fieldLink al_RJ0 15 "java/lang/String" "coder" "B",
  .methodLink al_RJ1 9 al_yJ0_checkIndex_df160,
  .fieldLink al_RJ0 1053 "jdk/internal/util/Preconditions" "SIOOBE_FORMATTER" "Ljava/util/function/BiFunction;",
  .methodLink al_RJ0 1059 al_yJ3_checkIndex_8e157,
  .methodLink al_RJ0 335 al_yJ0_coder_7d493,
  .fieldLink al_RX8 126 "TableTongue$Strings" "rowHead" "I",
  .fieldLink al_RX8 26 "TableTongue$Strings" "heads" "[I",
  .fieldLink al_RX8 20 "TableTongue$Strings" "lengths" "[I",
  .fieldLink al_RX8 10 "TableTongue$Strings" "pool" "[B",
  .fieldLink al_RX8 16 "TableTongue$Strings" "starts" "[I",
  .fieldLink al_RX8 23 "TableTongue$Strings" "chain" "[I",
  .fieldLink al_RX8 105 "TableTongue$Strings" "known" "I",
  .fieldLink al_RX8 123 "TableTongue$Strings" "used" "I",
  .methodLink al_RX8 83 arraycopyName,
  .native arraycopyName,
  .static arraycopyName,
  .initialized "java/lang/System",
  .fieldLink al_RX8 29 "TableTongue$Strings" "headOf" "[I",
  .methodLink al_RX8 99 al_yX8_find,
  .methodLink al_RX8 102 al_yX8_add,
  .fieldLink al_RX8 32 "TableTongue$Strings" "states" "[B",
  .fieldLink al_RX8 108 "TableTongue$Strings" "fixed" "I",
  .fieldLink al_RX8 111 "TableTongue$Strings" "textual" "I",
  .methodLink al_RX8 50 al_yJ0_length_8abf5,
  .methodLink al_RX8 56 al_yJ0_charAt_5068e,
  .methodLink al_RX8 67 al_yX8_put,
  .fieldLink al_RX1 25 "TableTongue$Library" "strings" "LTableTongue$Strings;",
  .methodLink al_RX1 93 al_yX8_begin,
  .methodLink al_RX1 98 al_yX8_putWords,
  .methodLink al_RX1 102 al_yX8_keepLatent,
  .methodLink al_RX1 105 al_yX8_keepFixed,
  .methodLink al_RX12 1 objectInit,
  .instanceMethod objectInit,
  .code objectInit ⟨#[0xb1]⟩ 1 none,
  .arrayClass .int,
  .fieldLink al_RX12 7 "TableTongueModel" "text" "[I",
  .constant al_RX12 13 (nI 40000),
  .arrayClass .byte,
  .fieldLink al_RX12 14 "TableTongueModel" "pool" "[B",
  .fieldLink al_RX12 18 "TableTongueModel" "nameAt" "[I",
  .fieldLink al_RX12 21 "TableTongueModel" "nameLong" "[I",
  .fieldLink al_RX12 24 "TableTongueModel" "nameSort" "[I",
  .fieldLink al_RX12 27 "TableTongueModel" "nameNext" "[I",
  .fieldLink al_RX12 30 "TableTongueModel" "nameHeads" "[I",
  .fieldLink al_RX12 33 "TableTongueModel" "buffer" "[B",
  .fieldLink al_RX12 36 "TableTongueModel" "tokenKind" "[I",
  .fieldLink al_RX12 39 "TableTongueModel" "tokenAt" "[I",
  .arrayClass .long,
  .fieldLink al_RX12 42 "TableTongueModel" "tokenValue" "[J",
  .fieldLink al_RX12 46 "TableTongueModel" "protoStart" "[I",
  .fieldLink al_RX12 49 "TableTongueModel" "protoParams" "[I",
  .fieldLink al_RX12 52 "TableTongueModel" "protoLocals" "[I",
  .fieldLink al_RX12 55 "TableTongueModel" "protoCaptured" "[I",
  .arrayClass .boolean,
  .fieldLink al_RX12 58 "TableTongueModel" "protoDots" "[Z",
  .fieldLink al_RX12 62 "TableTongueModel" "protoLine" "[I",
  .fieldLink al_RX12 65 "TableTongueModel" "fromLocal" "[Z",
  .fieldLink al_RX12 68 "TableTongueModel" "fromIndex" "[I",
  .fieldLink al_RX12 71 "TableTongueModel" "op" "[I",
  .fieldLink al_RX12 74 "TableTongueModel" "opA" "[I",
  .fieldLink al_RX12 77 "TableTongueModel" "opB" "[I",
  .fieldLink al_RX12 80 "TableTongueModel" "opLine" "[I",
  .fieldLink al_RX12 83 "TableTongueModel" "wholes" "[J",
  .fieldLink al_RX12 86 "TableTongueModel" "waitState" "[I",
  .fieldLink al_RX12 89 "TableTongueModel" "waitA" "[I",
  .fieldLink al_RX12 92 "TableTongueModel" "waitB" "[I",
  .fieldLink al_RX12 95 "TableTongueModel" "waitC" "[I",
  .fieldLink al_RX12 98 "TableTongueModel" "knownName" "[I",
  .fieldLink al_RX12 101 "TableTongueModel" "knownSlot" "[I",
  .fieldLink al_RX12 104 "TableTongueModel" "levelBase" "[I",
  .fieldLink al_RX12 107 "TableTongueModel" "levelProto" "[I",
  .fieldLink al_RX12 110 "TableTongueModel" "loopChain" "[I",
  .fieldLink al_RX12 113 "TableTongueModel" "loopLevel" "[I",
  .fieldLink al_RX12 116 "TableTongueModel" "placeSort" "[I",
  .fieldLink al_RX12 119 "TableTongueModel" "placeArg" "[I",
  .fieldLink al_RX12 122 "TableTongueModel" "placeLine" "[I",
  .fieldLink al_RX12 125 "TableTongueModel" "objKind" "[I",
  .fieldLink al_RX12 128 "TableTongueModel" "meta" "[I",
  .fieldLink al_RX12 131 "TableTongueModel" "firstPlace" "[I",
  .fieldLink al_RX12 134 "TableTongueModel" "lastPlace" "[I",
  .fieldLink al_RX12 137 "TableTongueModel" "markTurn" "[J",
  .fieldLink al_RX12 140 "TableTongueModel" "objData" "[I",
  .constant al_RX12 143 (nI 60060),
  .fieldLink al_RX12 144 "TableTongueModel" "objCells" "[I",
  .fieldLink al_RX12 147 "TableTongueModel" "plKeyKind" "[I",
  .fieldLink al_RX12 150 "TableTongueModel" "plKey" "[J",
  .fieldLink al_RX12 153 "TableTongueModel" "plKind" "[I",
  .fieldLink al_RX12 156 "TableTongueModel" "plValue" "[J",
  .fieldLink al_RX12 159 "TableTongueModel" "plTable" "[I",
  .fieldLink al_RX12 162 "TableTongueModel" "plNext" "[I",
  .fieldLink al_RX12 165 "TableTongueModel" "plChain" "[I",
  .fieldLink al_RX12 168 "TableTongueModel" "heads" "[I",
  .fieldLink al_RX12 171 "TableTongueModel" "freePlaces" "[I",
  .constant al_RX12 174 (nI 95000),
  .fieldLink al_RX12 175 "TableTongueModel" "cellKind" "[I",
  .fieldLink al_RX12 178 "TableTongueModel" "cellNumber" "[J",
  .fieldLink al_RX12 181 "TableTongueModel" "cellMarked" "[Z",
  .fieldLink al_RX12 184 "TableTongueModel" "freeCells" "[I",
  .fieldLink al_RX12 187 "TableTongueModel" "partState" "[I",
  .fieldLink al_RX12 190 "TableTongueModel" "partObject" "[I",
  .fieldLink al_RX12 193 "TableTongueModel" "partKind" "[I",
  .fieldLink al_RX12 196 "TableTongueModel" "partNumber" "[J",
  .fieldLink al_RX12 199 "TableTongueModel" "frameMany" "[I",
  .fieldLink al_RX12 202 "TableTongueModel" "heights" "[I",
  .fieldLink al_RX12 205 "TableTongueModel" "markMany" "[I",
  .fieldLink al_RX12 208 "TableTongueModel" "depths" "[I",
  .fieldLink al_RX12 211 "TableTongueModel" "resumer" "[I",
  .fieldLink al_RX12 214 "TableTongueModel" "goMode" "[I",
  .fieldLink al_RX12 217 "TableTongueModel" "goWant" "[I",
  .fieldLink al_RX12 220 "TableTongueModel" "stopMode" "[I",
  .fieldLink al_RX12 223 "TableTongueModel" "stopWant" "[I",
  .constant al_RX12 226 (nI 260000),
  .fieldLink al_RX12 227 "TableTongueModel" "vKind" "[I",
  .fieldLink al_RX12 230 "TableTongueModel" "vNumber" "[J",
  .constant al_RX12 233 (nI 52000),
  .fieldLink al_RX12 234 "TableTongueModel" "marks" "[I",
  .fieldLink al_RX12 237 "TableTongueModel" "fType" "[I",
  .fieldLink al_RX12 240 "TableTongueModel" "fProto" "[I",
  .fieldLink al_RX12 243 "TableTongueModel" "fFunction" "[I",
  .fieldLink al_RX12 246 "TableTongueModel" "fPc" "[I",
  .fieldLink al_RX12 249 "TableTongueModel" "fMode" "[I",
  .fieldLink al_RX12 252 "TableTongueModel" "fWant" "[I",
  .fieldLink al_RX12 255 "TableTongueModel" "fBase" "[I",
  .fieldLink al_RX12 258 "TableTongueModel" "fMarks" "[I",
  .fieldLink al_RX12 261 "TableTongueModel" "fDots" "[I",
  .fieldLink al_RX12 264 "TableTongueModel" "fLine" "[I",
  .fieldLink al_RX12 267 "TableTongueModel" "fFrom" "[I",
  .fieldLink al_RX12 270 "TableTongueModel" "fTo" "[I",
  .fieldLink al_RX12 273 "TableTongueModel" "fGone" "[I",
  .constant al_RX12 276 (nI 62400),
  .fieldLink al_RX12 277 "TableTongueModel" "fCell" "[I",
  .fieldLink al_RX12 280 "TableTongueModel" "argKind" "[I",
  .fieldLink al_RX12 283 "TableTongueModel" "arg" "[J",
  .fieldLink al_RX12 286 "TableTongueModel" "resKind" "[I",
  .fieldLink al_RX12 289 "TableTongueModel" "res" "[J",
  .fieldLink al_RX12 292 "TableTongueModel" "finalKind" "[I",
  .fieldLink al_RX12 295 "TableTongueModel" "finalNumber" "[J",
  .fieldLink al_RX12 298 "TableTongueModel" "output" "[B",
  .fieldLink al_RX12 301 "TableTongueModel" "acts" "[I",
  .fieldLink al_RX12 304 "TableTongueModel" "reached" "[Z",
  .fieldLink al_RX12 307 "TableTongueModel" "partReached" "[Z",
  .fieldLink al_RX12 310 "TableTongueModel" "queue" "[I",
  .fieldLink al_RX12 313 "TableTongueModel" "byKey" "[I",
  .fieldLink al_RX12 316 "TableTongueModel" "nextKey" "[I",
  .methodLink al_RX12 319 al_yX12_internBuilt,
  .fieldLink al_RX12 322 "TableTongueModel" "nameMany" "I",
  .fieldLink al_RX12 326 "TableTongueModel" "builtMany" "I",
  .fieldLink al_RX12 329 "TableTongueModel" "poolEnd" "I",
  .fieldLink al_RX12 332 "TableTongueModel" "builtPool" "I",
  .constantLong al_RX12 352 (lN 26845029215790456),
  .methodLink al_RX12 354 al_yX12_hidden,
  .constantLong al_RX12 358 (lN 6872332938464816740),
  .constantLong al_RX12 360 (lN 25976),
  .constantLong al_RX12 362 (lN 104863293860972),
  .constantLong al_RX12 364 (lN 409622111332),
  .constantLong al_RX12 366 (lN 409623295330),
  .constantLong al_RX12 368 (lN 409622902124),
  .constantLong al_RX12 370 (lN 104863394720118),
  .constantLong al_RX12 372 (lN 409622900580),
  .constantLong al_RX12 374 (lN 104863277084260),
  .constantLong al_RX12 376 (lN 409622179698),
  .constantLong al_RX12 378 (lN 104863278591858),
  .constantLong al_RX12 380 (lN 409623292012),
  .constantLong al_RX12 382 (lN 409623292018),
  .constantLong al_RX12 384 (lN 409623424621),
  .constantLong al_RX12 386 (lN 104863277936500),
  .constantLong al_RX12 388 (lN 6872320886635192692),
  .constantLong al_RX12 390 (lN 409622832494),
  .constantLong al_RX12 392 (lN 1600087409),
  .constantLong al_RX12 394 (lN 1600089204),
  .constantLong al_RX12 396 (lN 1600089189),
  .constantLong al_RX12 398 (lN 1600087907),
  .constantLong al_RX12 400 (lN 104863462548581),
  .methodLink al_RX12 402 al_yX12_internTypes,
  .methodLink al_RX12 405 al_yX12_internNames,
  .constantLong al_RX12 408 (lN 7235948),
  .constantLong al_RX12 410 (lN 27707072068280686),
  .constantLong al_RX12 412 (lN 121450625394034),
  .constantLong al_RX12 414 (lN 126943972912743),
  .constantLong al_RX12 416 (lN 499850046565),
  .constantLong al_RX12 418 (lN 7382928537577680750),
  .constantLong al_RX12 420 (lN 127991944667492),
  .constantLong al_RX12 422 (lN 7234935),
  .constantLong al_RX12 424 (lN 32497644298331492),
  .constantLong al_RX12 426 (lN 32217264504270439),
  .constantLong al_RX12 428 (lN 121424940196204),
  .constantLong al_RX12 430 (lN 1684365668),
  .constantLong al_RX12 432 (lN 7094703752064557426),
  .constantLong al_RX12 434 (lN 116),
  .constantLong al_RX12 436 (lN 7234295459109429618),
  .constantLong al_RX12 438 (lN 110),
  .constantLong al_RX12 440 (lN 482955849332),
  .constantLong al_RX12 442 (lN 1954115685),
  .constantLong al_RX12 444 (lN 8390051574787436135),
  .constantLong al_RX12 446 (lN 8390046081439917426),
  .constantLong al_RX12 448 (lN 1852143732),
  .constantLong al_RX12 450 (lN 482670637683),
  .constantLong al_RX12 452 (lN 115931391554163),
  .constantLong al_RX12 454 (lN 125762940659060),
  .constantLong al_RX12 456 (lN 125762941445492),
  .constantLong al_RX12 458 (lN 8242000070643638636),
  .constantLong al_RX12 460 (lN 125762940986734),
  .constantLong al_RX12 462 (lN 7450489171756736884),
  .constantLong al_RX12 464 (lN 1633840229),
  .constantLong al_RX12 466 (lN 8315180300211872116),
  .constantLong al_RX12 468 (lN 435711799154),
  .constantLong al_RX12 470 (lN 482703666284),
  .constantLong al_RX12 472 (lN 126879447475060),
  .constantLong al_RX12 474 (lN 27988534160089972),
  .constantLong al_RX12 476 (lN 1818850164),
  .constantLong al_RX12 478 (lN 1952807028),
  .constantLong al_RX12 480 (lN 1885434484),
  .constantLong al_RX12 482 (lN 115923103347316),
  .constantLong al_RX12 484 (lN 125779953284709),
  .constantLong al_RX12 486 (lN 109330244526452),
  .constantLong al_RX12 488 (lN 1885430635),
  .constantLong al_RX12 490 (lN 129117192282987),
  .constantLong al_RX12 492 (lN 7566690),
  .constantLong al_RX12 494 (lN 1652126821),
  .constantLong al_RX12 496 (lN 1667785074),
  .constantLong al_RX12 498 (lN 7497072),
  .constantLong al_RX12 500 (lN 26479),
  .constantLong al_RX12 502 (lN 1937010544),
  .constantLong al_RX12 504 (lN 495873782885),
  .fieldLink al_RX12 338 "TableTongueModel" "built" "I",
  .methodLink al_RX12 345 al_yX12_word,
  .methodLink al_RX12 349 al_yX12_intern,
  .methodLink al_RX12 341 al_yX12_hashOf,
  .fieldLink al_RX12 335 "TableTongueModel" "thrown" "I",
  .fieldLink al_RX12 509 "TableTongueModel" "compiled" "Z",
  .methodLink al_RX12 910 al_yX12_forgetFrom,
  .fieldLink al_RX12 618 "TableTongueModel" "faultCode" "I",
  .methodLink al_RX12 913 al_yX12_readTokens,
  .methodLink al_RX12 916 al_yX12_readText,
  .fieldLink al_RX12 621 "TableTongueModel" "faultAt" "I",
  .methodLink al_RX12 648 al_yX12_lineOf,
  .fieldLink al_RX12 919 "TableTongueModel" "faultLine" "I",
  .fieldLink al_RX12 922 "TableTongueModel" "baseMany" "I",
  .fieldLink al_RX12 925 "TableTongueModel" "basePool" "I",
  .methodLink al_RX12 928 al_yX12_reload,
  .fieldLink al_RX12 784 "TableTongueModel" "protos" "I",
  .fieldLink al_RX12 599 "TableTongueModel" "tokenMany" "I",
  .methodLink al_RX12 602 al_yX12_skip,
  .methodLink al_RX12 517 al_yX12_at,
  .fieldLink al_RX12 572 "TableTongueModel" "readKind" "I",
  .methodLink al_RX12 562 al_yX12_isLetter,
  .methodLink al_RX12 605 al_yX12_readName,
  .methodLink al_RX12 513 al_yX12_isDigit,
  .methodLink al_RX12 609 al_yX12_readWhole,
  .methodLink al_RX12 612 al_yX12_readString,
  .methodLink al_RX12 615 al_yX12_readSign,
  .fieldLink al_RX12 575 "TableTongueModel" "readValue" "J",
  .fieldLink al_RX12 565 "TableTongueModel" "readEnd" "I",
  .fieldLink al_RX12 506 "TableTongueModel" "size" "I",
  .fieldLink al_RX12 624 "TableTongueModel" "ti" "I",
  .fieldLink al_RX12 654 "TableTongueModel" "waits" "I",
  .fieldLink al_RX12 657 "TableTongueModel" "nest" "I",
  .fieldLink al_RX12 666 "TableTongueModel" "known" "I",
  .fieldLink al_RX12 660 "TableTongueModel" "level" "I",
  .fieldLink al_RX12 726 "TableTongueModel" "loops" "I",
  .fieldLink al_RX12 705 "TableTongueModel" "placeMany" "I",
  .fieldLink al_RX12 651 "TableTongueModel" "words" "I",
  .fieldLink al_RX12 758 "TableTongueModel" "wholeMany" "I",
  .methodLink al_RX12 682 al_yX12_emit,
  .methodLink al_RX12 686 al_yX12_later,
  .methodLink al_RX12 907 al_yX12_goOn,
  .methodLink al_RX12 808 al_yX12_readBlock,
  .methodLink al_RX12 801 al_yX12_endScope,
  .methodLink al_RX12 811 al_yX12_readE,
  .methodLink al_RX12 814 al_yX12_readOps,
  .methodLink al_RX12 817 al_yX12_unary,
  .methodLink al_RX12 820 al_yX12_binary,
  .methodLink al_RX12 823 al_yX12_chain,
  .methodLink al_RX12 826 al_yX12_suffix,
  .methodLink al_RX12 829 al_yX12_closeParen,
  .methodLink al_RX12 832 al_yX12_closeBracket,
  .methodLink al_RX12 835 al_yX12_chainValue,
  .methodLink al_RX12 792 al_yX12_needSign,
  .methodLink al_RX12 838 al_yX12_called,
  .methodLink al_RX12 841 al_yX12_row,
  .methodLink al_RX12 844 al_yX12_fields,
  .methodLink al_RX12 847 al_yX12_keyed,
  .methodLink al_RX12 850 al_yX12_positional,
  .methodLink al_RX12 853 al_yX12_body,
  .methodLink al_RX12 856 al_yX12_bodyEnd,
  .methodLink al_RX12 859 al_yX12_goOnStatement,
  .methodLink al_RX12 645 al_yX12_isWord,
  .methodLink al_RX12 690 al_yX12_lineHere,
  .methodLink al_RX12 638 al_yX12_take,
  .methodLink al_RX12 693 al_yX12_beginsE,
  .methodLink al_RX12 696 al_yX12_beginsStatement,
  .methodLink al_RX12 699 al_yX12_enter,
  .methodLink al_RX12 702 al_yX12_statement,
  .methodLink al_RX12 635 al_yX12_isSign,
  .methodLink al_RX12 862 al_yX12_afterChain,
  .methodLink al_RX12 865 al_yX12_assign,
  .methodLink al_RX12 868 al_yX12_then,
  .methodLink al_RX12 871 al_yX12_afterIf,
  .methodLink al_RX12 795 al_yX12_endIf,
  .methodLink al_RX12 874 al_yX12_whileDo,
  .methodLink al_RX12 877 al_yX12_whileEnd,
  .methodLink al_RX12 880 al_yX12_until,
  .methodLink al_RX12 883 al_yX12_untilEnd,
  .methodLink al_RX12 746 al_yX12_needWord,
  .methodLink al_RX12 886 al_yX12_forTwo,
  .methodLink al_RX12 889 al_yX12_forThree,
  .methodLink al_RX12 804 al_yX12_forDo,
  .methodLink al_RX12 892 al_yX12_forEnd,
  .methodLink al_RX12 895 al_yX12_inDo,
  .methodLink al_RX12 898 al_yX12_inEnd,
  .methodLink al_RX12 901 al_yX12_returned,
  .methodLink al_RX12 736 al_yX12_localRow,
  .methodLink al_RX12 904 al_yX12_functionDone,
  .methodLink al_RX12 642 al_yX12_wrong,
  .methodLink al_RX12 1489 al_yX12_forget,
  .methodLink al_RX12 1492 al_yX12_fill,
  .methodLink al_RX12 1223 al_yX12_object,
  .fieldLink al_RX12 1078 "TableTongueModel" "cur" "I",
  .fieldLink al_RX12 1090 "TableTongueModel" "args" "I",
  .methodLink al_RX12 1114 al_yX12_how,
  .methodLink al_RX12 1131 al_yX12_openFrame,
  .fieldLink al_RX12 1024 "TableTongueModel" "todo" "I",
  .methodLink al_RX12 1124 al_yX12_set,
  .methodLink al_RX12 1046 al_yX12_placeOf,
  .fieldLink al_RX12 1055 "TableTongueModel" "placesMany" "I",
  .fieldLink al_RX12 937 "TableTongueModel" "over" "I",
  .fieldLink al_RX12 1058 "TableTongueModel" "freeMany" "I",
  .methodLink al_RX12 1042 al_yX12_keyHash,
  .constantLong al_RX12 1036 (lN 31),
  .constantLong al_RX12 1038 (lN 7),
  .constantLong al_RX12 1040 (lN 131),
  .fieldLink al_RX12 1065 "TableTongueModel" "made" "I",
  .fieldLink al_RX12 1093 "TableTongueModel" "mode" "I",
  .fieldLink al_RX12 1096 "TableTongueModel" "want" "I",
  .fieldLink al_RX12 1033 "TableTongueModel" "line" "I",
  .fieldLink al_RX12 931 "TableTongueModel" "madeStrings" "I",
  .fieldLink al_RX12 934 "TableTongueModel" "madeBytes" "I",
  .fieldLink al_RX12 1071 "TableTongueModel" "freeCellMany" "I",
  .constant al_RX12 1077 (nI 94999),
  .fieldLink al_RX12 1342 "TableTongueModel" "turns" "J",
  .fieldLink al_RX12 1068 "TableTongueModel" "partMany" "I",
  .fieldLink al_RX12 1468 "TableTongueModel" "actsTop" "I",
  .fieldLink al_RX12 1486 "TableTongueModel" "actsCalled" "I",
  .fieldLink al_RX12 1324 "TableTongueModel" "outMany" "I",
  .fieldLink al_RX12 1233 "TableTongueModel" "steps" "J",
  .fieldLink al_RX12 1167 "TableTongueModel" "finalMany" "I",
  .methodLink al_RX11 1 objectInit,
  .instanceMethod objectInit,
  .code objectInit ⟨#[0xb1]⟩ 1 none,
  .fieldLink al_RX11 9 "TableTongue" "text" "[B",
  .classLink al_RX11 13 "TableTongue$Strings",
  .instantiable "TableTongue$Strings" 16,
  .initialized "TableTongue$Strings",
  .methodLink al_RX11 15 al_yX8_init,
  .fieldLink al_RX11 16 "TableTongue" "strings" "LTableTongue$Strings;",
  .classLink al_RX11 20 "TableTongue$Program",
  .instantiable "TableTongue$Program" 15,
  .initialized "TableTongue$Program",
  .methodLinkNest al_RX11 22 al_yX6_init "TableTongue",
  .fieldLink al_RX11 23 "TableTongue" "program" "LTableTongue$Program;",
  .classLink al_RX11 27 "TableTongue$Tables",
  .instantiable "TableTongue$Tables" 17,
  .initialized "TableTongue$Tables",
  .methodLinkNest al_RX11 29 al_yX9_init "TableTongue",
  .fieldLink al_RX11 30 "TableTongue" "tables" "LTableTongue$Tables;",
  .classLink al_RX11 34 "TableTongue$Objects",
  .instantiable "TableTongue$Objects" 12,
  .initialized "TableTongue$Objects",
  .methodLink al_RX11 36 al_yX3_init,
  .fieldLink al_RX11 37 "TableTongue" "objects" "LTableTongue$Objects;",
  .fieldLink al_RX11 41 "TableTongue" "faultPlace" "I",
  .fieldLink al_RX11 45 "TableTongue" "faultLine" "I",
  .classLink al_RX11 48 "TableTongue$Parser",
  .instantiable "TableTongue$Parser" 13,
  .initialized "TableTongue$Parser",
  .classLink al_RX11 50 "TableTongue$Tokens",
  .instantiable "TableTongue$Tokens" 9,
  .initialized "TableTongue$Tokens",
  .methodLink al_RX11 52 al_yX10_init,
  .methodLink al_RX11 55 al_yX4_init,
  .fieldLink al_RX11 58 "TableTongue" "parser" "LTableTongue$Parser;",
  .classLink al_RX11 62 "TableTongue$Gathering",
  .instantiable "TableTongue$Gathering" 15,
  .initialized "TableTongue$Gathering",
  .methodLink al_RX11 64 al_yX0_init,
  .fieldLink al_RX11 67 "TableTongue" "gathering" "LTableTongue$Gathering;",
  .classLink al_RX11 71 "TableTongue$Machine",
  .instantiable "TableTongue$Machine" 19,
  .initialized "TableTongue$Machine",
  .methodLink al_RX11 73 al_yX2_init,
  .fieldLink al_RX11 76 "TableTongue" "machine" "LTableTongue$Machine;",
  .methodLink al_RX11 86 al_yX11_forget,
  .fieldLink al_RX11 80 "TableTongue" "size" "I",
  .methodLink al_RX11 89 al_yX4_judge,
  .fieldLinkNest al_RX11 93 "TableTongue$Parser" "refusedPlace" "I" "TableTongue",
  .fieldLinkNest al_RX11 96 "TableTongue$Parser" "refusedLine" "I" "TableTongue",
  .fieldLink al_RX11 99 "TableTongue" "compiled" "Z",
  .methodLink al_RX11 103 al_yX2_reset,
  .fieldLinkNest al_RX11 106 "TableTongue$Program" "functions" "I" "TableTongue",
  .methodLink al_RX8 3 objectInit,
  .instanceMethod objectInit,
  .code objectInit ⟨#[0xb1]⟩ 1 none,
  .constant al_RX8 9 (nI 32768),
  .methodLink al_RX8 40 al_yX8_keepNames,
  .methodLink al_RX8 60 al_yX8_keepLatent,
  .methodLink al_RX8 120 al_yX8_cutTo,
  .fieldLink al_RX8 114 "TableTongue$Strings" "made" "I",
  .fieldLink al_RX8 117 "TableTongue$Strings" "madeBytes" "I",
  .methodLink al_RX8 75 Lib.Math.min.name,
  .static Lib.Math.min.name,
  .initialized "java/lang/Math",
  .code Lib.Math.min.name Lib.Math.min.code 2 (some .int),
  .methodLink al_RX6 1 objectInit,
  .instanceMethod objectInit,
  .code objectInit ⟨#[0xb1]⟩ 1 none,
  .fieldLink al_RX6 9 "TableTongue$Program" "ops" "[I",
  .fieldLink al_RX6 13 "TableTongue$Program" "as" "[I",
  .fieldLink al_RX6 16 "TableTongue$Program" "bs" "[I",
  .fieldLink al_RX6 19 "TableTongue$Program" "lines" "[I",
  .fieldLink al_RX6 22 "TableTongue$Program" "wholes" "[J",
  .fieldLink al_RX6 26 "TableTongue$Program" "entries" "[I",
  .fieldLink al_RX6 29 "TableTongue$Program" "params" "[I",
  .fieldLink al_RX6 32 "TableTongue$Program" "locals" "[I",
  .fieldLink al_RX6 35 "TableTongue$Program" "captures" "[I",
  .fieldLink al_RX6 38 "TableTongue$Program" "bodyLine" "[I",
  .fieldLink al_RX6 41 "TableTongue$Program" "dots" "[Z",
  .fieldLink al_RX6 45 "TableTongue$Program" "sources" "[I",
  .fieldLink al_RX6 48 "TableTongue$Program" "size" "I",
  .fieldLink al_RX6 52 "TableTongue$Program" "wholeCount" "I",
  .fieldLink al_RX6 55 "TableTongue$Program" "functions" "I",
  .methodLink al_RX9 3 objectInit,
  .instanceMethod objectInit,
  .code objectInit ⟨#[0xb1]⟩ 1 none,
  .fieldLink al_RX9 11 "TableTongue$Tables" "first" "[I",
  .fieldLink al_RX9 17 "TableTongue$Tables" "last" "[I",
  .fieldLink al_RX9 20 "TableTongue$Tables" "length" "[I",
  .fieldLink al_RX9 23 "TableTongue$Tables" "metas" "[I",
  .fieldLink al_RX9 26 "TableTongue$Tables" "keyKinds" "[B",
  .fieldLink al_RX9 30 "TableTongue$Tables" "valueKinds" "[B",
  .fieldLink al_RX9 33 "TableTongue$Tables" "keys" "[J",
  .fieldLink al_RX9 37 "TableTongue$Tables" "values" "[J",
  .fieldLink al_RX9 40 "TableTongue$Tables" "owners" "[I",
  .fieldLink al_RX9 43 "TableTongue$Tables" "after" "[I",
  .fieldLink al_RX9 46 "TableTongue$Tables" "chain" "[I",
  .fieldLink al_RX9 49 "TableTongue$Tables" "heads" "[I",
  .fieldLink al_RX9 52 "TableTongue$Tables" "headOf" "[I",
  .methodLink al_RX9 55 al_yJ7_fill_53178,
  .fieldLink al_RX9 61 "TableTongue$Tables" "free" "I",
  .fieldLink al_RX9 65 "TableTongue$Tables" "used" "I",
  .fieldLink al_RX9 68 "TableTongue$Tables" "placed" "I",
  .methodLink al_RX9 71 al_yX9_open,
  .fieldLink al_RX9 75 "TableTongue$Tables" "keyHead" "I",
  .methodLink al_RX9 78 al_yX9_find,
  .methodLink al_RX9 82 al_yX9_add,
  .methodLink al_RX3 3 objectInit,
  .instanceMethod objectInit,
  .code objectInit ⟨#[0xb1]⟩ 1 none,
  .fieldLink al_RX3 11 "TableTongue$Objects" "kinds" "[B",
  .fieldLink al_RX3 15 "TableTongue$Objects" "details" "[I",
  .fieldLink al_RX3 19 "TableTongue$Objects" "firstCells" "[I",
  .fieldLink al_RX3 22 "TableTongue$Objects" "cells" "[I",
  .fieldLink al_RX3 25 "TableTongue$Objects" "cellKinds" "[B",
  .fieldLink al_RX3 28 "TableTongue$Objects" "cellValues" "[J",
  .classLink al_RX3 32 "TableTongue$Part",
  .fieldLink al_RX3 34 "TableTongue$Objects" "parts" "[LTableTongue$Part;",
  .classLink al_RX3 32 "TableTongue$Part",
  .instantiable "TableTongue$Part" 16,
  .initialized "TableTongue$Part",
  .methodLinkNest al_RX3 38 al_yX5_init "TableTongue",
  .fieldLink al_RX3 39 "TableTongue$Objects" "made" "I",
  .fieldLink al_RX3 43 "TableTongue$Objects" "gone" "I",
  .fieldLink al_RX3 46 "TableTongue$Objects" "cellsUsed" "I",
  .fieldLink al_RX3 49 "TableTongue$Objects" "cellCount" "I",
  .fieldLink al_RX3 52 "TableTongue$Objects" "partCount" "I",
  .methodLink al_RX3 55 al_yX5_open,
  .methodLink al_RX5 3 objectInit,
  .instanceMethod objectInit,
  .code objectInit ⟨#[0xb1]⟩ 1 none,
  .fieldLink al_RX5 9 "TableTongue$Part" "kinds" "[B",
  .fieldLink al_RX5 15 "TableTongue$Part" "values" "[J",
  .fieldLink al_RX5 19 "TableTongue$Part" "modes" "[I",
  .fieldLink al_RX5 23 "TableTongue$Part" "functions" "[I",
  .fieldLink al_RX5 26 "TableTongue$Part" "nexts" "[I",
  .fieldLink al_RX5 29 "TableTongue$Part" "bases" "[I",
  .fieldLink al_RX5 32 "TableTongue$Part" "starts" "[I",
  .fieldLink al_RX5 35 "TableTongue$Part" "wants" "[I",
  .fieldLink al_RX5 38 "TableTongue$Part" "lines" "[I",
  .fieldLink al_RX5 41 "TableTongue$Part" "number" "I",
  .fieldLink al_RX5 45 "TableTongue$Part" "state" "I",
  .fieldLink al_RX5 48 "TableTongue$Part" "top" "I",
  .fieldLink al_RX5 51 "TableTongue$Part" "depth" "I",
  .fieldLink al_RX5 54 "TableTongue$Part" "want" "I",
  .fieldLink al_RX5 57 "TableTongue$Part" "resumer" "I",
  .methodLink al_RX10 3 objectInit,
  .instanceMethod objectInit,
  .code objectInit ⟨#[0xb1]⟩ 1 none,
  .fieldLink al_RX10 9 "TableTongue$Tokens" "text" "[B",
  .fieldLink al_RX10 15 "TableTongue$Tokens" "strings" "LTableTongue$Strings;",
  .fieldLink al_RX10 19 "TableTongue$Tokens" "size" "I",
  .fieldLink al_RX10 23 "TableTongue$Tokens" "end" "I",
  .fieldLink al_RX10 26 "TableTongue$Tokens" "line" "I",
  .fieldLink al_RX10 29 "TableTongue$Tokens" "number" "I",
  .fieldLink al_RX10 32 "TableTongue$Tokens" "type" "I",
  .methodLink al_RX10 35 al_yX10_behindBlanks,
  .fieldLink al_RX10 39 "TableTongue$Tokens" "place" "I",
  .methodLink al_RX10 42 al_yX10_isLetter,
  .methodLink al_RX10 46 al_yX10_isDigit,
  .methodLink al_RX10 49 al_yX10_byteAt,
  .methodLink al_RX4 3 objectInit,
  .instanceMethod objectInit,
  .code objectInit ⟨#[0xb1]⟩ 1 none,
  .fieldLink al_RX4 11 "TableTongue$Parser" "places" "[I",
  .fieldLink al_RX4 15 "TableTongue$Parser" "tokens" "LTableTongue$Tokens;",
  .fieldLink al_RX4 19 "TableTongue$Parser" "program" "LTableTongue$Program;",
  .fieldLink al_RX4 23 "TableTongue$Parser" "strings" "LTableTongue$Strings;",
  .classLink al_RX4 27 "TableTongue$Scopes",
  .instantiable "TableTongue$Scopes" 12,
  .initialized "TableTongue$Scopes",
  .methodLink al_RX4 29 al_yX7_init,
  .fieldLink al_RX4 32 "TableTongue$Parser" "scopes" "LTableTongue$Scopes;",
  .methodLink al_RX4 36 al_yX8_begin,
  .methodLink al_RX4 43 al_yX8_putWords,
  .methodLink al_RX4 47 al_yX8_keepLatent,
  .fieldLink al_RX4 51 "TableTongue$Parser" "selfName" "I",
  .methodLink al_RX4 55 al_yX8_dropMade,
  .methodLink al_RX4 58 al_yX8_dropText,
  .methodLink al_RX4 61 al_yX6_clear,
  .methodLink al_RX4 66 al_yX7_clear,
  .fieldLink al_RX4 67 "TableTongue$Parser" "refused" "I",
  .fieldLink al_RX4 70 "TableTongue$Parser" "placeTop" "I",
  .fieldLinkNest al_RX4 73 "TableTongue$Program" "entries" "[I" "TableTongue",
  .methodLink al_RX4 76 al_yX6_addFunction,
  .fieldLinkNest al_RX4 80 "TableTongue$Program" "dots" "[Z" "TableTongue",
  .methodLink al_RX4 84 al_yX7_enter,
  .methodLink al_RX4 88 al_yX10_open,
  .methodLink al_RX4 93 al_yX4_next,
  .methodLink al_RX4 96 al_yX4_emit,
  .methodLink al_RX4 100 al_yX4_block,
  .fieldLinkNest al_RX4 103 "TableTongue$Tokens" "type" "I" "TableTongue",
  .methodLink al_RX4 106 al_yX4_refuse,
  .methodLink al_RX4 109 al_yX7_height,
  .fieldLinkNest al_RX4 112 "TableTongue$Tokens" "number" "I" "TableTongue",
  .methodLink al_RX4 130 al_yX10_begin,
  .methodLink al_RX4 132 al_yX10_scanName,
  .methodLink al_RX4 135 al_yX10_scanNumber,
  .methodLink al_RX4 138 al_yX10_scanQuoted,
  .methodLink al_RX4 141 al_yX10_scanSign,
  .methodLink al_RX4 144 al_yX6_emit,
  .methodLink al_RX4 154 al_yX4_startsStatement,
  .methodLink al_RX4 158 al_yX4_statement,
  .methodLink al_RX4 161 al_yX4_returnStatement,
  .methodLink al_RX7 3 objectInit,
  .instanceMethod objectInit,
  .code objectInit ⟨#[0xb1]⟩ 1 none,
  .fieldLink al_RX7 13 "TableTongue$Scopes" "names" "[I",
  .fieldLink al_RX7 17 "TableTongue$Scopes" "slots" "[I",
  .fieldLink al_RX7 20 "TableTongue$Scopes" "functionAt" "[I",
  .fieldLink al_RX7 23 "TableTongue$Scopes" "firstAt" "[I",
  .fieldLink al_RX7 26 "TableTongue$Scopes" "heightAt" "[I",
  .fieldLink al_RX7 29 "TableTongue$Scopes" "breaksAt" "[I",
  .fieldLink al_RX7 32 "TableTongue$Scopes" "captured" "[I",
  .fieldLink al_RX7 35 "TableTongue$Scopes" "program" "LTableTongue$Program;",
  .fieldLink al_RX7 39 "TableTongue$Scopes" "level" "I",
  .fieldLink al_RX7 43 "TableTongue$Scopes" "active" "I",
  .methodLink al_RX0 3 objectInit,
  .instanceMethod objectInit,
  .code objectInit ⟨#[0xb1]⟩ 1 none,
  .fieldLink al_RX0 11 "TableTongue$Gathering" "reached" "[B",
  .fieldLink al_RX0 17 "TableTongue$Gathering" "weaknesses" "[I",
  .fieldLink al_RX0 21 "TableTongue$Gathering" "grays" "[I",
  .fieldLink al_RX0 24 "TableTongue$Gathering" "waiting" "[I",
  .fieldLink al_RX0 27 "TableTongue$Gathering" "marked" "[B",
  .fieldLink al_RX0 30 "TableTongue$Gathering" "markOrder" "[I",
  .fieldLink al_RX0 33 "TableTongue$Gathering" "acts" "[I",
  .fieldLink al_RX0 36 "TableTongue$Gathering" "strings" "LTableTongue$Strings;",
  .fieldLink al_RX0 40 "TableTongue$Gathering" "tables" "LTableTongue$Tables;",
  .fieldLink al_RX0 44 "TableTongue$Gathering" "objects" "LTableTongue$Objects;",
  .methodLink al_RX0 48 al_yJ7_fill_031fb,
  .fieldLink al_RX0 54 "TableTongue$Gathering" "marks" "I",
  .fieldLink al_RX0 58 "TableTongue$Gathering" "actCount" "I",
  .fieldLink al_RX0 61 "TableTongue$Gathering" "lastActs" "I",
  .methodLink al_RX2 3 objectInit,
  .instanceMethod objectInit,
  .code objectInit ⟨#[0xb1]⟩ 1 none,
  .fieldLink al_RX2 9 "TableTongue$Machine" "program" "LTableTongue$Program;",
  .fieldLink al_RX2 15 "TableTongue$Machine" "strings" "LTableTongue$Strings;",
  .fieldLink al_RX2 19 "TableTongue$Machine" "tables" "LTableTongue$Tables;",
  .fieldLink al_RX2 23 "TableTongue$Machine" "objects" "LTableTongue$Objects;",
  .fieldLink al_RX2 27 "TableTongue$Machine" "gathering" "LTableTongue$Gathering;",
  .classLink al_RX2 31 "TableTongue$Library",
  .instantiable "TableTongue$Library" 16,
  .initialized "TableTongue$Library",
  .methodLink al_RX2 33 al_yX1_init,
  .fieldLink al_RX2 36 "TableTongue$Machine" "library" "LTableTongue$Library;",
  .methodLink al_RX2 40 al_yX8_dropMade,
  .methodLink al_RX2 45 al_yX3_clear,
  .methodLink al_RX2 50 al_yX9_clear,
  .methodLink al_RX2 53 al_yX0_clear,
  .methodLink al_RX2 56 al_yX1_furnish,
  .fieldLink al_RX2 59 "TableTongue$Machine" "status" "I",
  .fieldLink al_RX2 63 "TableTongue$Machine" "stepsDone" "J",
  .fieldLink al_RX2 67 "TableTongue$Machine" "nestedParts" "I",
  .fieldLink al_RX2 70 "TableTongue$Machine" "pending" "I",
  .fieldLinkNest al_RX2 73 "TableTongue$Objects" "parts" "[LTableTongue$Part;" "TableTongue",
  .fieldLink al_RX2 77 "TableTongue$Machine" "now" "LTableTongue$Part;",
  .fieldLinkNest al_RX2 83 "TableTongue$Program" "entries" "[I" "TableTongue",
  .methodLink al_RX2 89 al_yX5_enter,
  .methodLink al_RX1 3 objectInit,
  .instanceMethod objectInit,
  .code objectInit ⟨#[0xb1]⟩ 1 none,
  .fieldLink al_RX1 11 "TableTongue$Library" "names" "[I",
  .fieldLink al_RX1 15 "TableTongue$Library" "keys" "[I",
  .fieldLink al_RX1 18 "TableTongue$Library" "shelves" "[I",
  .fieldLink al_RX1 21 "TableTongue$Library" "paper" "[B",
  .fieldLink al_RX1 29 "TableTongue$Library" "tables" "LTableTongue$Tables;",
  .fieldLink al_RX1 33 "TableTongue$Library" "objects" "LTableTongue$Objects;",
  .fieldLink al_RX1 37 "TableTongue$Library" "gathering" "LTableTongue$Gathering;",
  .methodLink al_RX1 43 al_yX1_keepNames,
  .methodLink al_RX1 55 al_yX1_fixed,
  .fieldLink al_RX1 65 "TableTongue$Library" "packedKey" "I",
  .methodLink al_RX1 69 al_yJ0_length_8abf5,
  .methodLink al_RX1 75 al_yJ0_charAt_5068e,
  .methodLink al_RX1 79 al_yJ0_substring_37a41,
  .methodLink al_RX1 83 al_yX1_latent,
  .methodLink al_RX1 86 al_yJ0_indexOf_0f7a4,
  .methodLink al_RX1 90 al_yJ0_substring_b52d3,
  .fieldLink al_RX1 108 "TableTongue$Library" "printed" "J",
  .methodLink al_RX1 112 al_yX1_newTable,
  .methodLink al_RX1 115 al_yX9_put,
  .methodLink al_RX1 121 al_yX3_make,
  .methodLink al_RX1 126 al_yX9_open,
  .methodLink al_RJ0 633 al_yJ0_indexOf_7cf53,
  .methodLink al_RJ0 505 al_yJ0_length_8abf5,
  .methodLink al_RJ0 637 al_yJ1_indexOf_4cfef,
  .methodLink al_RJ0 681 al_yJ0_substring_37a41,
  .methodLink al_RJ0 521 al_yJ0_checkBoundsBeginEnd_23922,
  .methodLink al_RJ0 685 al_yJ1_newString_b4f7a,
  .methodLink al_RJ0 1 objectInit,
  .instanceMethod objectInit,
  .code objectInit ⟨#[0xb1]⟩ 1 none,
  .methodLink al_RJ0 1062 al_yJ3_checkFromToIndex_8c36e,
  .methodLink al_RJ1 88 al_yJ1_canEncode_9a6ad,
  .methodLink al_RJ1 92 Lib.Math.max.name,
  .static Lib.Math.max.name,
  .initialized "java/lang/Math",
  .code Lib.Math.max.name Lib.Math.max.code 2 (some .int),
  .methodLink al_RJ1 38 Lib.Math.min.name,
  .static Lib.Math.min.name,
  .initialized "java/lang/Math",
  .code Lib.Math.min.name Lib.Math.min.code 2 (some .int),
  .methodLink al_RJ1 95 al_yJ1_indexOfChar_4cfef,
  .classLink al_RJ1 1 "java/lang/String",
  .instantiable "java/lang/String" 4,
  .initialized "java/lang/String",
  .methodLink al_RJ1 232 al_yJ7_copyOfRange_39247,
  .methodLink al_RJ1 112 al_yJ0_init_031fb,
  .methodLink al_RJ7 339 al_yJ7_copyOfRangeByte_39247,
  .methodLink al_RJ7 343 al_yJ7_checkLength_df160,
  .methodLink al_RJ7 304 Lib.Math.min.name,
  .static Lib.Math.min.name,
  .initialized "java/lang/Math",
  .code Lib.Math.min.name Lib.Math.min.code 2 (some .int),
  .methodLink al_RJ7 150 arraycopyName,
  .native arraycopyName,
  .static arraycopyName,
  .initialized "java/lang/System",
  .fieldLinkNest al_RX4 115 "TableTongue$Tokens" "place" "I" "TableTongue",
  .fieldLink al_RX4 118 "TableTongue$Parser" "refusedPlace" "I",
  .fieldLinkNest al_RX4 121 "TableTongue$Tokens" "line" "I" "TableTongue",
  .fieldLink al_RX4 124 "TableTongue$Parser" "refusedLine" "I",
  .methodLink al_RX4 127 al_yX10_stop,
  .methodLink al_RX4 145 al_yX7_rise,
  .methodLink al_RX4 148 al_yX7_setHeight,
  .methodLink al_RX4 151 al_yX4_unary,
  .fieldLinkNest al_RX4 164 "TableTongue$Scopes" "active" "I" "TableTongue",
  .methodLink al_RX4 167 al_yX7_close,
  .methodLink al_RX4 170 al_yX4_cut,
  .methodLink al_RX4 173 al_yX4_take,
  .methodLink al_RX4 177 al_yX4_closedBlock,
  .methodLink al_RX4 180 al_yX4_expect,
  .methodLink al_RX4 183 al_yX4_whileStatement,
  .methodLink al_RX4 186 al_yX4_repeatStatement,
  .methodLink al_RX4 189 al_yX4_ifStatement,
  .methodLink al_RX4 192 al_yX4_forStatement,
  .methodLink al_RX4 195 al_yX4_functionStatement,
  .methodLink al_RX4 198 al_yX4_localStatement,
  .methodLink al_RX4 201 al_yX4_breakStatement,
  .methodLink al_RX4 204 al_yX4_chainStatement,
  .methodLink al_RX4 207 al_yX4_startsExpression,
  .methodLink al_RX4 210 al_yX4_row,
  .methodLink al_RX4 213 al_yX7_breaks,
  .methodLink al_RX4 216 al_yX7_setBreaks,
  .fieldLinkNest al_RX4 219 "TableTongue$Program" "size" "I" "TableTongue",
  .methodLink al_RX4 222 al_yX4_expression,
  .methodLink al_RX4 226 al_yX4_endLoop,
  .methodLink al_RX4 230 al_yX6_land,
  .methodLink al_RX4 233 al_yX4_condition,
  .fieldLinkNest al_RX4 236 "TableTongue$Tokens" "value" "J" "TableTongue",
  .methodLink al_RX4 240 al_yX7_hide,
  .methodLink al_RX4 243 al_yX4_newName,
  .methodLink al_RX4 246 al_yX4_countingFor,
  .methodLink al_RX4 250 al_yX4_moreNames,
  .methodLink al_RX4 253 al_yX4_rowFor,
  .methodLink al_RX4 256 al_yX6_addWhole,
  .methodLink al_RX4 260 al_yX4_push,
  .methodLink al_RX4 264 al_yX7_reveal,
  .methodLink al_RX4 267 al_yX4_adjust,
  .methodLink al_RX4 270 al_yX4_body,
  .methodLink al_RX4 274 al_yX4_startName,
  .methodLink al_RX4 277 al_yX4_fieldName,
  .fieldLink al_RX4 280 "TableTongue$Parser" "tailOp" "I",
  .fieldLink al_RX4 283 "TableTongue$Parser" "tailIndex" "I",
  .fieldLink al_RX4 286 "TableTongue$Parser" "tailLine" "I",
  .methodLink al_RX4 289 al_yX4_assign,
  .methodLink al_RX4 292 al_yX4_cutIfNeeded,
  .methodLink al_RX4 295 al_yX7_resolve,
  .fieldLinkNest al_RX4 298 "TableTongue$Scopes" "foundOp" "I" "TableTongue",
  .fieldLinkNest al_RX4 301 "TableTongue$Scopes" "foundIndex" "I" "TableTongue",
  .methodLink al_RX4 304 al_yX4_readTail,
  .methodLink al_RX4 307 al_yX4_keyName,
  .methodLink al_RX4 310 al_yX4_link,
  .methodLink al_RX4 313 al_yX4_given,
  .methodLink al_RX4 316 al_yX4_table,
  .methodLink al_RX4 319 al_yX4_chain,
  .methodLink al_RX4 322 al_yX6_wantOfLast,
  .methodLink al_RX4 325 al_yX4_assignment,
  .methodLink al_RX4 328 al_yX4_notePlace,
  .methodLink al_RX4 331 al_yX4_operand,
  .methodLink al_RX4 334 al_yX4_strength,
  .methodLink al_RX4 337 al_yX4_operation,
  .methodLink al_RX4 340 al_yX4_binary,
  .methodLink al_RX4 343 al_yX7_current,
  .methodLink al_RX4 346 al_yX10_assignFollows,
  .methodLink al_RX4 349 al_yX4_keyedField,
  .methodLink al_RX4 352 al_yX4_separator,
  .methodLink al_RX4 355 al_yX4_itemField,
  .fieldLinkNest al_RX4 358 "TableTongue$Program" "functions" "I" "TableTongue",
  .methodLink al_RX4 361 al_yX4_parameters,
  .fieldLinkNest al_RX4 364 "TableTongue$Program" "params" "[I" "TableTongue",
  .methodLink al_RX4 367 al_yX7_leave,
  .fieldLinkNest al_RX7 46 "TableTongue$Program" "locals" "[I" "TableTongue",
  .methodLink al_RX7 49 al_yX7_slotOf,
  .methodLink al_RX7 53 al_yX7_capturedOf,
  .fieldLink al_RX7 56 "TableTongue$Scopes" "foundOp" "I",
  .fieldLink al_RX7 59 "TableTongue$Scopes" "foundIndex" "I",
  .fieldLinkNest al_RX7 62 "TableTongue$Program" "captures" "[I" "TableTongue",
  .fieldLinkNest al_RX7 65 "TableTongue$Program" "sources" "[I" "TableTongue",
  .methodLink al_RX8 71 al_yX8_byteOf,
  .methodLink al_RX8 80 Lib.Math.max.name,
  .static Lib.Math.max.name,
  .initialized "java/lang/Math",
  .code Lib.Math.max.name Lib.Math.max.code 2 (some .int),
  .methodLink al_RX8 89 al_yX8_putPiece,
  .constantLong al_RX8 93 (lN 10),
  .methodLink al_RX10 52 al_yX8_begin,
  .methodLink al_RX10 57 al_yX8_put,
  .methodLink al_RX10 61 al_yX8_wordOfRow,
  .methodLink al_RX10 65 al_yX8_keepTextual,
  .fieldLink al_RX10 68 "TableTongue$Tokens" "value" "J",
  .methodLink al_RX10 72 al_yX10_hexDigit,
  .constantLong al_RX10 75 (lN 9223372036854775807),
  .constantLong al_RX10 77 (lN 10),
  .methodLink al_RX10 79 al_yX10_escape,
  .methodLink al_RX10 82 al_yX8_rowLength,
  .methodLink al_RX10 85 al_yX10_pairOf,
  .methodLink al_RX10 91 al_yJ0_indexOf_0f7a4,
  .constantLong al_RX12 520 (lN 6385252),
  .constantLong al_RX12 522 (lN 422826041707),
  .constantLong al_RX12 524 (lN 25711),
  .constantLong al_RX12 526 (lN 1701606245),
  .constantLong al_RX12 528 (lN 111516466899302),
  .constantLong al_RX12 530 (lN 6647396),
  .constantLong al_RX12 532 (lN 439721161573),
  .constantLong al_RX12 534 (lN 6713202),
  .constantLong al_RX12 536 (lN 26982),
  .constantLong al_RX12 538 (lN 26990),
  .methodLink al_RX12 540 al_yX12_wordBehind,
  .constantLong al_RX12 544 (lN 465725251948),
  .constantLong al_RX12 546 (lN 7237492),
  .constantLong al_RX12 548 (lN 28530),
  .constantLong al_RX12 550 (lN 125780002955636),
  .constantLong al_RX12 552 (lN 125780071117422),
  .constantLong al_RX12 554 (lN 1952998766),
  .constantLong al_RX12 556 (lN 1953658213),
  .constantLong al_RX12 558 (lN 504364296556),
  .constantLong al_RX12 560 (lN 512852847717),
  .methodLink al_RX12 568 al_yX12_wordAt,
  .methodLink al_RX12 579 al_yX12_hex,
  .constantLong al_RX12 582 (lN 922337203685477580),
  .constantLong al_RX12 584 (lN 10),
  .constantLong al_RX12 586 (lN 48),
  .methodLink al_RX12 588 al_yX12_escape,
  .methodLink al_RX12 591 al_yX12_pair,
  .constantLong al_RX12 594 (lN 301),
  .methodLink al_RX12 596 al_yX12_isAlone,
  .methodLink al_RX12 627 al_yX12_here,
  .methodLink al_RX12 631 al_yX12_fail,
  .methodLink al_RX12 663 al_yX12_proto,
  .fieldLink al_RX12 669 "TableTongueModel" "chainLine" "I",
  .methodLink al_RX12 672 al_yX12_captured,
  .fieldLink al_RX12 676 "TableTongueModel" "chainSort" "I",
  .fieldLink al_RX12 679 "TableTongueModel" "chainArg" "I",
  .methodLink al_RX12 708 al_yX12_block,
  .methodLink al_RX12 711 al_yX12_openLoop,
  .methodLink al_RX12 714 al_yX12_readFor,
  .methodLink al_RX12 717 al_yX12_readFunction,
  .methodLink al_RX12 720 al_yX12_readLocal,
  .methodLink al_RX12 723 al_yX12_readBreak,
  .methodLink al_RX12 729 al_yX12_countLocal,
  .methodLink al_RX12 732 al_yX12_know,
  .methodLink al_RX12 740 al_yX12_resolve,
  .methodLink al_RX12 743 al_yX12_discharge,
  .methodLink al_RX12 749 al_yX12_leftOf,
  .methodLink al_RX12 752 al_yX12_operand,
  .fieldLink al_RX12 755 "TableTongueModel" "lastMulti" "I",
  .methodLink al_RX12 761 al_yX12_constant,
  .methodLink al_RX12 764 al_yX12_table,
  .methodLink al_RX12 767 al_yX12_strength,
  .methodLink al_RX12 770 al_yX12_eventOf,
  .methodLink al_RX12 773 al_yX12_beginsGiven,
  .methodLink al_RX12 776 al_yX12_given,
  .constantLong al_RX12 779 (lN 61),
  .methodLink al_RX12 781 al_yX12_isParting,
  .constantLong al_RX12 787 (lN 1936026726),
  .methodLink al_RX12 789 al_yX12_parameters,
  .methodLink al_RX12 798 al_yX12_closeLoop]
