/-! ===== 10: the reference: its methods that are evaluated (by wip/whole/gen_model.py) ===== -/
def mo_RX12 : String := "TableTongueModel"
def mo_TX12 : u_T := fun k => match k with
  | 0 => ("TableTongueModel", "thrown", "I", false)
  | 1 => ("TableTongueModel", "text", "[I", true)
  | 2 => ("TableTongueModel", "size", "I", false)
  | 3 => ("TableTongueModel", "compiled", "Z", false)
  | 4 => ("TableTongueModel", "faultCode", "I", false)
  | 5 => ("TableTongueModel", "faultAt", "I", false)
  | 6 => ("TableTongueModel", "faultLine", "I", false)
  | 7 => ("TableTongueModel", "pool", "[B", true)
  | 8 => ("TableTongueModel", "poolEnd", "I", false)
  | 9 => ("TableTongueModel", "nameAt", "[I", true)
  | 10 => ("TableTongueModel", "nameLong", "[I", true)
  | 11 => ("TableTongueModel", "nameSort", "[I", true)
  | 12 => ("TableTongueModel", "nameNext", "[I", true)
  | 13 => ("TableTongueModel", "nameHeads", "[I", true)
  | 14 => ("TableTongueModel", "nameMany", "I", false)
  | 15 => ("TableTongueModel", "baseMany", "I", false)
  | 16 => ("TableTongueModel", "basePool", "I", false)
  | 17 => ("TableTongueModel", "madeStrings", "I", false)
  | 18 => ("TableTongueModel", "madeBytes", "I", false)
  | 19 => ("TableTongueModel", "buffer", "[B", true)
  | 20 => ("TableTongueModel", "built", "I", false)
  | 21 => ("TableTongueModel", "tokenKind", "[I", true)
  | 22 => ("TableTongueModel", "tokenAt", "[I", true)
  | 23 => ("TableTongueModel", "tokenValue", "[J", true)
  | 24 => ("TableTongueModel", "tokenMany", "I", false)
  | 25 => ("TableTongueModel", "ti", "I", false)
  | 26 => ("TableTongueModel", "protoStart", "[I", true)
  | 27 => ("TableTongueModel", "protoParams", "[I", true)
  | 28 => ("TableTongueModel", "protoLocals", "[I", true)
  | 29 => ("TableTongueModel", "protoCaptured", "[I", true)
  | 30 => ("TableTongueModel", "protoDots", "[Z", true)
  | 31 => ("TableTongueModel", "protoLine", "[I", true)
  | 32 => ("TableTongueModel", "fromLocal", "[Z", true)
  | 33 => ("TableTongueModel", "fromIndex", "[I", true)
  | 34 => ("TableTongueModel", "protos", "I", false)
  | 35 => ("TableTongueModel", "op", "[I", true)
  | 36 => ("TableTongueModel", "opA", "[I", true)
  | 37 => ("TableTongueModel", "opB", "[I", true)
  | 38 => ("TableTongueModel", "opLine", "[I", true)
  | 39 => ("TableTongueModel", "wholes", "[J", true)
  | 40 => ("TableTongueModel", "wholeMany", "I", false)
  | 41 => ("TableTongueModel", "words", "I", false)
  | 42 => ("TableTongueModel", "waitState", "[I", true)
  | 43 => ("TableTongueModel", "waitA", "[I", true)
  | 44 => ("TableTongueModel", "waitB", "[I", true)
  | 45 => ("TableTongueModel", "waitC", "[I", true)
  | 46 => ("TableTongueModel", "waits", "I", false)
  | 47 => ("TableTongueModel", "nest", "I", false)
  | 48 => ("TableTongueModel", "knownName", "[I", true)
  | 49 => ("TableTongueModel", "knownSlot", "[I", true)
  | 50 => ("TableTongueModel", "known", "I", false)
  | 51 => ("TableTongueModel", "levelBase", "[I", true)
  | 52 => ("TableTongueModel", "levelProto", "[I", true)
  | 53 => ("TableTongueModel", "level", "I", false)
  | 54 => ("TableTongueModel", "loopChain", "[I", true)
  | 55 => ("TableTongueModel", "loopLevel", "[I", true)
  | 56 => ("TableTongueModel", "loops", "I", false)
  | 57 => ("TableTongueModel", "placeSort", "[I", true)
  | 58 => ("TableTongueModel", "placeArg", "[I", true)
  | 59 => ("TableTongueModel", "placeLine", "[I", true)
  | 60 => ("TableTongueModel", "placeMany", "I", false)
  | 61 => ("TableTongueModel", "chainSort", "I", false)
  | 62 => ("TableTongueModel", "chainArg", "I", false)
  | 63 => ("TableTongueModel", "chainLine", "I", false)
  | 64 => ("TableTongueModel", "lastMulti", "I", false)
  | 65 => ("TableTongueModel", "builtMany", "I", false)
  | 66 => ("TableTongueModel", "builtPool", "I", false)
  | 67 => ("TableTongueModel", "readKind", "I", false)
  | 68 => ("TableTongueModel", "readValue", "J", false)
  | 69 => ("TableTongueModel", "readEnd", "I", false)
  | 70 => ("TableTongueModel", "objKind", "[I", true)
  | 71 => ("TableTongueModel", "meta", "[I", true)
  | 72 => ("TableTongueModel", "firstPlace", "[I", true)
  | 73 => ("TableTongueModel", "lastPlace", "[I", true)
  | 74 => ("TableTongueModel", "markTurn", "[J", true)
  | 75 => ("TableTongueModel", "objData", "[I", true)
  | 76 => ("TableTongueModel", "objCells", "[I", true)
  | 77 => ("TableTongueModel", "made", "I", false)
  | 78 => ("TableTongueModel", "turns", "J", false)
  | 79 => ("TableTongueModel", "plKeyKind", "[I", true)
  | 80 => ("TableTongueModel", "plKey", "[J", true)
  | 81 => ("TableTongueModel", "plKind", "[I", true)
  | 82 => ("TableTongueModel", "plValue", "[J", true)
  | 83 => ("TableTongueModel", "plTable", "[I", true)
  | 84 => ("TableTongueModel", "plNext", "[I", true)
  | 85 => ("TableTongueModel", "plChain", "[I", true)
  | 86 => ("TableTongueModel", "heads", "[I", true)
  | 87 => ("TableTongueModel", "freePlaces", "[I", true)
  | 88 => ("TableTongueModel", "freeMany", "I", false)
  | 89 => ("TableTongueModel", "placesMany", "I", false)
  | 90 => ("TableTongueModel", "gotKind", "I", false)
  | 91 => ("TableTongueModel", "gotNumber", "J", false)
  | 92 => ("TableTongueModel", "cellKind", "[I", true)
  | 93 => ("TableTongueModel", "cellNumber", "[J", true)
  | 94 => ("TableTongueModel", "cellMarked", "[Z", true)
  | 95 => ("TableTongueModel", "freeCells", "[I", true)
  | 96 => ("TableTongueModel", "freeCellMany", "I", false)
  | 97 => ("TableTongueModel", "partState", "[I", true)
  | 98 => ("TableTongueModel", "partObject", "[I", true)
  | 99 => ("TableTongueModel", "partKind", "[I", true)
  | 100 => ("TableTongueModel", "partNumber", "[J", true)
  | 101 => ("TableTongueModel", "frameMany", "[I", true)
  | 102 => ("TableTongueModel", "heights", "[I", true)
  | 103 => ("TableTongueModel", "markMany", "[I", true)
  | 104 => ("TableTongueModel", "depths", "[I", true)
  | 105 => ("TableTongueModel", "resumer", "[I", true)
  | 106 => ("TableTongueModel", "goMode", "[I", true)
  | 107 => ("TableTongueModel", "goWant", "[I", true)
  | 108 => ("TableTongueModel", "stopMode", "[I", true)
  | 109 => ("TableTongueModel", "stopWant", "[I", true)
  | 110 => ("TableTongueModel", "partMany", "I", false)
  | 111 => ("TableTongueModel", "cur", "I", false)
  | 112 => ("TableTongueModel", "vKind", "[I", true)
  | 113 => ("TableTongueModel", "vNumber", "[J", true)
  | 114 => ("TableTongueModel", "marks", "[I", true)
  | 115 => ("TableTongueModel", "fType", "[I", true)
  | 116 => ("TableTongueModel", "fProto", "[I", true)
  | 117 => ("TableTongueModel", "fFunction", "[I", true)
  | 118 => ("TableTongueModel", "fPc", "[I", true)
  | 119 => ("TableTongueModel", "fMode", "[I", true)
  | 120 => ("TableTongueModel", "fWant", "[I", true)
  | 121 => ("TableTongueModel", "fBase", "[I", true)
  | 122 => ("TableTongueModel", "fMarks", "[I", true)
  | 123 => ("TableTongueModel", "fDots", "[I", true)
  | 124 => ("TableTongueModel", "fLine", "[I", true)
  | 125 => ("TableTongueModel", "fFrom", "[I", true)
  | 126 => ("TableTongueModel", "fTo", "[I", true)
  | 127 => ("TableTongueModel", "fGone", "[I", true)
  | 128 => ("TableTongueModel", "fCell", "[I", true)
  | 129 => ("TableTongueModel", "todo", "I", false)
  | 130 => ("TableTongueModel", "mode", "I", false)
  | 131 => ("TableTongueModel", "want", "I", false)
  | 132 => ("TableTongueModel", "line", "I", false)
  | 133 => ("TableTongueModel", "calleeKind", "I", false)
  | 134 => ("TableTongueModel", "callee", "J", false)
  | 135 => ("TableTongueModel", "argKind", "[I", true)
  | 136 => ("TableTongueModel", "arg", "[J", true)
  | 137 => ("TableTongueModel", "args", "I", false)
  | 138 => ("TableTongueModel", "resKind", "[I", true)
  | 139 => ("TableTongueModel", "res", "[J", true)
  | 140 => ("TableTongueModel", "resMany", "I", false)
  | 141 => ("TableTongueModel", "errKind", "I", false)
  | 142 => ("TableTongueModel", "errNumber", "J", false)
  | 143 => ("TableTongueModel", "over", "I", false)
  | 144 => ("TableTongueModel", "left", "I", false)
  | 145 => ("TableTongueModel", "steps", "J", false)
  | 146 => ("TableTongueModel", "finalKind", "[I", true)
  | 147 => ("TableTongueModel", "finalNumber", "[J", true)
  | 148 => ("TableTongueModel", "finalMany", "I", false)
  | 149 => ("TableTongueModel", "output", "[B", true)
  | 150 => ("TableTongueModel", "outMany", "I", false)
  | 151 => ("TableTongueModel", "acts", "[I", true)
  | 152 => ("TableTongueModel", "actsTop", "I", false)
  | 153 => ("TableTongueModel", "actsCalled", "I", false)
  | 154 => ("TableTongueModel", "reached", "[Z", true)
  | 155 => ("TableTongueModel", "partReached", "[Z", true)
  | 156 => ("TableTongueModel", "queue", "[I", true)
  | 157 => ("TableTongueModel", "queued", "I", false)
  | 158 => ("TableTongueModel", "byKey", "[I", true)
  | _ => ("TableTongueModel", "nextKey", "[I", true)
def mo_YX12 : Nat → FieldType := fun k => match k with
  | 0 => .int
  | 1 => .array .int
  | 2 => .int
  | 3 => .boolean
  | 4 => .int
  | 5 => .int
  | 6 => .int
  | 7 => .array .byte
  | 8 => .int
  | 9 => .array .int
  | 10 => .array .int
  | 11 => .array .int
  | 12 => .array .int
  | 13 => .array .int
  | 14 => .int
  | 15 => .int
  | 16 => .int
  | 17 => .int
  | 18 => .int
  | 19 => .array .byte
  | 20 => .int
  | 21 => .array .int
  | 22 => .array .int
  | 23 => .array .long
  | 24 => .int
  | 25 => .int
  | 26 => .array .int
  | 27 => .array .int
  | 28 => .array .int
  | 29 => .array .int
  | 30 => .array .boolean
  | 31 => .array .int
  | 32 => .array .boolean
  | 33 => .array .int
  | 34 => .int
  | 35 => .array .int
  | 36 => .array .int
  | 37 => .array .int
  | 38 => .array .int
  | 39 => .array .long
  | 40 => .int
  | 41 => .int
  | 42 => .array .int
  | 43 => .array .int
  | 44 => .array .int
  | 45 => .array .int
  | 46 => .int
  | 47 => .int
  | 48 => .array .int
  | 49 => .array .int
  | 50 => .int
  | 51 => .array .int
  | 52 => .array .int
  | 53 => .int
  | 54 => .array .int
  | 55 => .array .int
  | 56 => .int
  | 57 => .array .int
  | 58 => .array .int
  | 59 => .array .int
  | 60 => .int
  | 61 => .int
  | 62 => .int
  | 63 => .int
  | 64 => .int
  | 65 => .int
  | 66 => .int
  | 67 => .int
  | 68 => .long
  | 69 => .int
  | 70 => .array .int
  | 71 => .array .int
  | 72 => .array .int
  | 73 => .array .int
  | 74 => .array .long
  | 75 => .array .int
  | 76 => .array .int
  | 77 => .int
  | 78 => .long
  | 79 => .array .int
  | 80 => .array .long
  | 81 => .array .int
  | 82 => .array .long
  | 83 => .array .int
  | 84 => .array .int
  | 85 => .array .int
  | 86 => .array .int
  | 87 => .array .int
  | 88 => .int
  | 89 => .int
  | 90 => .int
  | 91 => .long
  | 92 => .array .int
  | 93 => .array .long
  | 94 => .array .boolean
  | 95 => .array .int
  | 96 => .int
  | 97 => .array .int
  | 98 => .array .int
  | 99 => .array .int
  | 100 => .array .long
  | 101 => .array .int
  | 102 => .array .int
  | 103 => .array .int
  | 104 => .array .int
  | 105 => .array .int
  | 106 => .array .int
  | 107 => .array .int
  | 108 => .array .int
  | 109 => .array .int
  | 110 => .int
  | 111 => .int
  | 112 => .array .int
  | 113 => .array .long
  | 114 => .array .int
  | 115 => .array .int
  | 116 => .array .int
  | 117 => .array .int
  | 118 => .array .int
  | 119 => .array .int
  | 120 => .array .int
  | 121 => .array .int
  | 122 => .array .int
  | 123 => .array .int
  | 124 => .array .int
  | 125 => .array .int
  | 126 => .array .int
  | 127 => .array .int
  | 128 => .array .int
  | 129 => .int
  | 130 => .int
  | 131 => .int
  | 132 => .int
  | 133 => .int
  | 134 => .long
  | 135 => .array .int
  | 136 => .array .long
  | 137 => .int
  | 138 => .array .int
  | 139 => .array .long
  | 140 => .int
  | 141 => .int
  | 142 => .long
  | 143 => .int
  | 144 => .int
  | 145 => .long
  | 146 => .array .int
  | 147 => .array .long
  | 148 => .int
  | 149 => .array .byte
  | 150 => .int
  | 151 => .array .int
  | 152 => .int
  | 153 => .int
  | 154 => .array .boolean
  | 155 => .array .boolean
  | 156 => .array .int
  | 157 => .int
  | 158 => .array .int
  | _ => .array .int
def mo_cl : List vw_C := [(mo_RX12, mo_TX12, 160)]
def mo_tyf : Nat → Nat → FieldType := fun k => match k with
  | _ => mo_YX12
def mo_dfl : Nat → Nat := fun k => match k with
  | _ => 8598671120004952744802343632202003015758426573480726932366997923460386159692077450080078432629339148390347322134525782292431735672227007739397982590720711359607375768280440264746480361571888065175108985712464046897484475851627328527302016158891512064221776900916052938570264242502663303306082911129852556363023682265886900632838461412148974242246142618444313183960570815325450768027114828768039664037186323371867286619803654692728601012490092697796692387866178015028403524739678415558067821278306437555156182960761703546499152261034315877438101827747800452756112689654166230412686020466433274778651888412354782314023351709899508600788361154142760659248074534913214074805142645210809515540886702512642928852919426737871881509749364241962223075233317268204052045464314534298568104842600911217338583627934300806368497758836828775411368690392453265239588558328961425620726358232492532613246101880904498508050559330910845547332783908770843814988293048467401107989939117217716131123346663270591245551327764107289237919397707140579666355674246713167952465790308595963470943733470943002747182809151611608351068761761692213257118216175977192938636082697598409625290783387326004330272850486691368597970897679481523999852044552613034843044102430714631887548121089020287557966545917505632816189425846916683027228449479378905746676983200353207861574388089354891140021999959124904633754566254307547568676482086876436067778775089191391925777843089216890551520279261365638552244774359691122261237027125979203194253830832192153232904782806239815699825089379901855837583543493677410342878194885517964480648435036554820029753758336443872717557678309450475107060746610883951813113893287820647136004110019970892787007605621796992433037662756698757298450074704694118755323504386851865925571165506455726622482573652284134564890623844943048718599138124987751259585476427408641932832328641745472436270474166856882491031152827220732682479573881961141413626856538181405397892710472593665013131852296395309512558470146330808290965010704546828070838582776065133165734034890158927294366958270546383124355828240325543143016604109981034810723416306685976648065943375262327613090990047131760260165967665333955160008268834429298077527868013766097185285802896710844331717616508743671064877382203376139419341959020264785268470767504492377066453653510550869197699004508340653886059671412748344669143166068500115277893059367575556437971583253535161591932694766762639059151339588769124845141823552830096381037126254567775907353982160171861052890046973142911470252584791204051770302891646371511887411037620676038130111786240778468037909889283076752630214699942444961125984876197183916402307736999911523194087492304743648589575078649278483737012027314030832857087805164831526700009122480468423969734480418412181619487430492392102519518517717913131338352599074509956554941261517445526417079524538406568753878871748932216680676834130131731347134790013664674969037026608689275547199755151984738912532984504336563266901200350874201432279870212910521832743949276357402403995865221731113432195273346291436951047885762227904100361929463546977827557927181175589533712844189019384506725370868879193211338382859053730019747517416097837363121167397349381969799517261270509018171116235230514546668491967044175649481317990082722238209077465394057888383794535782957842424891854244197078951622578602704977475629523547159464027354624325747212408056193446014606719046008283742624938543806990209432919175544325646045576953856
def mo_yX12_init : MethodName := ⟨mo_RX12, "<init>", "()V"⟩
def mo_yX12_internBuilt : MethodName := ⟨mo_RX12, "internBuilt", "()V"⟩
def mo_yX12_internTypes : MethodName := ⟨mo_RX12, "internTypes", "()V"⟩
def mo_yX12_internNames : MethodName := ⟨mo_RX12, "internNames", "()V"⟩
def mo_yX12_hidden : MethodName := ⟨mo_RX12, "hidden", "(JJI)I"⟩
def mo_yX12_word : MethodName := ⟨mo_RX12, "word", "(J)V"⟩
def mo_yX12_intern : MethodName := ⟨mo_RX12, "intern", "(I)I"⟩
def mo_yX12_hashOf : MethodName := ⟨mo_RX12, "hashOf", "(I)I"⟩
def mo_yX12_compile : MethodName := ⟨mo_RX12, "compile", "()I"⟩
def mo_yX12_forgetFrom : MethodName := ⟨mo_RX12, "forgetFrom", "(II)V"⟩
def mo_yX12_readTokens : MethodName := ⟨mo_RX12, "readTokens", "()V"⟩
def mo_yX12_skip : MethodName := ⟨mo_RX12, "skip", "(I)I"⟩
def mo_yX12_at : MethodName := ⟨mo_RX12, "at", "(I)I"⟩
def mo_yX12_readText : MethodName := ⟨mo_RX12, "readText", "()Z"⟩
def mo_yX12_emit : MethodName := ⟨mo_RX12, "emit", "(IIII)I"⟩
def mo_yX12_later : MethodName := ⟨mo_RX12, "later", "(IIII)V"⟩
def mo_yX12_goOn : MethodName := ⟨mo_RX12, "goOn", "(IIII)Z"⟩
def mo_yX12_readBlock : MethodName := ⟨mo_RX12, "readBlock", "()Z"⟩
def mo_yX12_isWord : MethodName := ⟨mo_RX12, "isWord", "(I)Z"⟩
def mo_yX12_beginsStatement : MethodName := ⟨mo_RX12, "beginsStatement", "()Z"⟩
def mo_yX12_isSign : MethodName := ⟨mo_RX12, "isSign", "(I)Z"⟩
def mo_yX12_goOnStatement : MethodName := ⟨mo_RX12, "goOnStatement", "(IIII)Z"⟩
def mo_yX12_reload : MethodName := ⟨mo_RX12, "reload", "()V"⟩
def mo_yX12_fill : MethodName := ⟨mo_RX12, "fill", "(IIIJ)V"⟩
def mo_yX12_set : MethodName := ⟨mo_RX12, "set", "(IIJIJ)Z"⟩
def mo_yX12_placeOf : MethodName := ⟨mo_RX12, "placeOf", "(IIJ)I"⟩
def mo_yX12_keyHash : MethodName := ⟨mo_RX12, "keyHash", "(IIJ)I"⟩
def mo_yX12_object : MethodName := ⟨mo_RX12, "object", "(I)I"⟩
def mo_yX12_how : MethodName := ⟨mo_RX12, "how", "(III)V"⟩
def mo_yX12_openFrame : MethodName := ⟨mo_RX12, "openFrame", "(II)V"⟩
def mo_yX12_forget : MethodName := ⟨mo_RX12, "forget", "()V"⟩
def mo_mX12_init : ev_MeK := (mo_yX12_init, prog_14_method_1_code, 2, none, [[((0, .aload_n 0, 1, 0, 0, 0, 0), 5, 0), ((1, .invokespecial 1, 3, 0, 0, 0, 0), 58, 0), ((4, .aload_n 0, 1, 0, 0, 0, 0), 5, 0), ((5, .sipush 6000, 3, 6000, 0, 0, 0), 14, 0), ((8, .newarray .int, 2, 0, 0, 0, 3), 58, 0), ((10, .putfield 7, 3, 0, 1, 20, 4), 51, 0), ((13, .aload_n 0, 1, 0, 0, 0, 0), 5, 0), ((14, .ldc 13, 2, 40000, 0, 0, 5), 58, 0)],
  [((16, .newarray .byte, 2, 1, 0, 0, 6), 58, 0), ((18, .putfield 14, 3, 0, 7, 20, 7), 51, 0), ((21, .aload_n 0, 1, 0, 0, 0, 0), 5, 0), ((22, .sipush 3000, 3, 3000, 0, 0, 0), 14, 0), ((25, .newarray .int, 2, 0, 0, 0, 3), 58, 0), ((27, .putfield 18, 3, 0, 9, 20, 8), 51, 0), ((30, .aload_n 0, 1, 0, 0, 0, 0), 5, 0), ((31, .sipush 3000, 3, 3000, 0, 0, 0), 14, 0)],
  [((34, .newarray .int, 2, 0, 0, 0, 3), 58, 0), ((36, .putfield 21, 3, 0, 10, 20, 9), 51, 0), ((39, .aload_n 0, 1, 0, 0, 0, 0), 5, 0), ((40, .sipush 3000, 3, 3000, 0, 0, 0), 14, 0), ((43, .newarray .int, 2, 0, 0, 0, 3), 58, 0), ((45, .putfield 24, 3, 0, 11, 20, 10), 51, 0)],
  [((48, .aload_n 0, 1, 0, 0, 0, 0), 5, 0), ((49, .sipush 3000, 3, 3000, 0, 0, 0), 14, 0), ((52, .newarray .int, 2, 0, 0, 0, 3), 58, 0), ((54, .putfield 27, 3, 0, 12, 20, 11), 51, 0), ((57, .aload_n 0, 1, 0, 0, 0, 0), 5, 0), ((58, .sipush 1024, 3, 1024, 0, 0, 0), 14, 0), ((61, .newarray .int, 2, 0, 0, 0, 3), 58, 0), ((63, .putfield 30, 3, 0, 13, 20, 12), 51, 0)],
  [((66, .aload_n 0, 1, 0, 0, 0, 0), 5, 0), ((67, .sipush 4200, 3, 4200, 0, 0, 0), 14, 0), ((70, .newarray .byte, 2, 1, 0, 0, 6), 58, 0), ((72, .putfield 33, 3, 0, 19, 20, 13), 51, 0), ((75, .aload_n 0, 1, 0, 0, 0, 0), 5, 0), ((76, .sipush 1502, 3, 1502, 0, 0, 0), 14, 0), ((79, .newarray .int, 2, 0, 0, 0, 3), 58, 0)],
  [((81, .putfield 36, 3, 0, 21, 20, 14), 51, 0), ((84, .aload_n 0, 1, 0, 0, 0, 0), 5, 0), ((85, .sipush 1502, 3, 1502, 0, 0, 0), 14, 0), ((88, .newarray .int, 2, 0, 0, 0, 3), 58, 0), ((90, .putfield 39, 3, 0, 22, 20, 15), 51, 0), ((93, .aload_n 0, 1, 0, 0, 0, 0), 5, 0), ((94, .sipush 1502, 3, 1502, 0, 0, 0), 14, 0)],
  [((97, .newarray .long, 2, 10, 0, 0, 16), 58, 0), ((99, .putfield 42, 3, 0, 23, 20, 17), 51, 0), ((102, .aload_n 0, 1, 0, 0, 0, 0), 5, 0), ((103, .bipush 51, 2, 51, 0, 0, 0), 13, 0), ((105, .newarray .int, 2, 0, 0, 0, 3), 58, 0), ((107, .putfield 46, 3, 0, 26, 20, 18), 51, 0), ((110, .aload_n 0, 1, 0, 0, 0, 0), 5, 0), ((111, .bipush 51, 2, 51, 0, 0, 0), 13, 0)],
  [((113, .newarray .int, 2, 0, 0, 0, 3), 58, 0), ((115, .putfield 49, 3, 0, 27, 20, 19), 51, 0), ((118, .aload_n 0, 1, 0, 0, 0, 0), 5, 0), ((119, .bipush 51, 2, 51, 0, 0, 0), 13, 0), ((121, .newarray .int, 2, 0, 0, 0, 3), 58, 0), ((123, .putfield 52, 3, 0, 28, 20, 20), 51, 0), ((126, .aload_n 0, 1, 0, 0, 0, 0), 5, 0), ((127, .bipush 51, 2, 51, 0, 0, 0), 13, 0)],
  [((129, .newarray .int, 2, 0, 0, 0, 3), 58, 0), ((131, .putfield 55, 3, 0, 29, 20, 21), 51, 0), ((134, .aload_n 0, 1, 0, 0, 0, 0), 5, 0), ((135, .bipush 51, 2, 51, 0, 0, 0), 13, 0), ((137, .newarray .boolean, 2, 2, 0, 0, 22), 58, 0), ((139, .putfield 58, 3, 0, 30, 20, 23), 51, 0), ((142, .aload_n 0, 1, 0, 0, 0, 0), 5, 0), ((143, .bipush 51, 2, 51, 0, 0, 0), 13, 0)],
  [((145, .newarray .int, 2, 0, 0, 0, 3), 58, 0), ((147, .putfield 62, 3, 0, 31, 20, 24), 51, 0), ((150, .aload_n 0, 1, 0, 0, 0, 0), 5, 0), ((151, .sipush 1530, 3, 1530, 0, 0, 0), 14, 0), ((154, .newarray .boolean, 2, 2, 0, 0, 22), 58, 0), ((156, .putfield 65, 3, 0, 32, 20, 25), 51, 0), ((159, .aload_n 0, 1, 0, 0, 0, 0), 5, 0)],
  [((160, .sipush 1530, 3, 1530, 0, 0, 0), 14, 0), ((163, .newarray .int, 2, 0, 0, 0, 3), 58, 0), ((165, .putfield 68, 3, 0, 33, 20, 26), 51, 0), ((168, .aload_n 0, 1, 0, 0, 0, 0), 5, 0), ((169, .sipush 14000, 3, 14000, 0, 0, 0), 14, 0), ((172, .newarray .int, 2, 0, 0, 0, 3), 58, 0), ((174, .putfield 71, 3, 0, 35, 20, 27), 51, 0)],
  [((177, .aload_n 0, 1, 0, 0, 0, 0), 5, 0), ((178, .sipush 14000, 3, 14000, 0, 0, 0), 14, 0), ((181, .newarray .int, 2, 0, 0, 0, 3), 58, 0), ((183, .putfield 74, 3, 0, 36, 20, 28), 51, 0), ((186, .aload_n 0, 1, 0, 0, 0, 0), 5, 0), ((187, .sipush 14000, 3, 14000, 0, 0, 0), 14, 0), ((190, .newarray .int, 2, 0, 0, 0, 3), 58, 0)],
  [((192, .putfield 77, 3, 0, 37, 20, 29), 51, 0), ((195, .aload_n 0, 1, 0, 0, 0, 0), 5, 0), ((196, .sipush 14000, 3, 14000, 0, 0, 0), 14, 0), ((199, .newarray .int, 2, 0, 0, 0, 3), 58, 0), ((201, .putfield 80, 3, 0, 38, 20, 30), 51, 0), ((204, .aload_n 0, 1, 0, 0, 0, 0), 5, 0), ((205, .sipush 1501, 3, 1501, 0, 0, 0), 14, 0)],
  [((208, .newarray .long, 2, 10, 0, 0, 16), 58, 0), ((210, .putfield 83, 3, 0, 39, 20, 31), 51, 0), ((213, .aload_n 0, 1, 0, 0, 0, 0), 5, 0), ((214, .sipush 4000, 3, 4000, 0, 0, 0), 14, 0), ((217, .newarray .int, 2, 0, 0, 0, 3), 58, 0), ((219, .putfield 86, 3, 0, 42, 20, 32), 51, 0), ((222, .aload_n 0, 1, 0, 0, 0, 0), 5, 0), ((223, .sipush 4000, 3, 4000, 0, 0, 0), 14, 0)],
  [((226, .newarray .int, 2, 0, 0, 0, 3), 58, 0), ((228, .putfield 89, 3, 0, 43, 20, 33), 51, 0), ((231, .aload_n 0, 1, 0, 0, 0, 0), 5, 0), ((232, .sipush 4000, 3, 4000, 0, 0, 0), 14, 0), ((235, .newarray .int, 2, 0, 0, 0, 3), 58, 0), ((237, .putfield 92, 3, 0, 44, 20, 34), 51, 0)],
  [((240, .aload_n 0, 1, 0, 0, 0, 0), 5, 0), ((241, .sipush 4000, 3, 4000, 0, 0, 0), 14, 0), ((244, .newarray .int, 2, 0, 0, 0, 3), 58, 0), ((246, .putfield 95, 3, 0, 45, 20, 35), 51, 0), ((249, .aload_n 0, 1, 0, 0, 0, 0), 5, 0), ((250, .sipush 1600, 3, 1600, 0, 0, 0), 14, 0), ((253, .newarray .int, 2, 0, 0, 0, 3), 58, 0), ((255, .putfield 98, 3, 0, 48, 20, 36), 51, 0)],
  [((258, .aload_n 0, 1, 0, 0, 0, 0), 5, 0), ((259, .sipush 1600, 3, 1600, 0, 0, 0), 14, 0), ((262, .newarray .int, 2, 0, 0, 0, 3), 58, 0), ((264, .putfield 101, 3, 0, 49, 20, 37), 51, 0), ((267, .aload_n 0, 1, 0, 0, 0, 0), 5, 0), ((268, .bipush 52, 2, 52, 0, 0, 0), 13, 0), ((270, .newarray .int, 2, 0, 0, 0, 3), 58, 0)],
  [((272, .putfield 104, 3, 0, 51, 20, 38), 51, 0), ((275, .aload_n 0, 1, 0, 0, 0, 0), 5, 0), ((276, .bipush 52, 2, 52, 0, 0, 0), 13, 0), ((278, .newarray .int, 2, 0, 0, 0, 3), 58, 0), ((280, .putfield 107, 3, 0, 52, 20, 39), 51, 0), ((283, .aload_n 0, 1, 0, 0, 0, 0), 5, 0), ((284, .bipush 64, 2, 64, 0, 0, 0), 13, 0), ((286, .newarray .int, 2, 0, 0, 0, 3), 58, 0)],
  [((288, .putfield 110, 3, 0, 54, 20, 40), 51, 0), ((291, .aload_n 0, 1, 0, 0, 0, 0), 5, 0), ((292, .bipush 64, 2, 64, 0, 0, 0), 13, 0), ((294, .newarray .int, 2, 0, 0, 0, 3), 58, 0), ((296, .putfield 113, 3, 0, 55, 20, 41), 51, 0), ((299, .aload_n 0, 1, 0, 0, 0, 0), 5, 0), ((300, .sipush 600, 3, 600, 0, 0, 0), 14, 0), ((303, .newarray .int, 2, 0, 0, 0, 3), 58, 0)],
  [((305, .putfield 116, 3, 0, 57, 20, 42), 51, 0), ((308, .aload_n 0, 1, 0, 0, 0, 0), 5, 0), ((309, .sipush 600, 3, 600, 0, 0, 0), 14, 0), ((312, .newarray .int, 2, 0, 0, 0, 3), 58, 0), ((314, .putfield 119, 3, 0, 58, 20, 43), 51, 0), ((317, .aload_n 0, 1, 0, 0, 0, 0), 5, 0), ((318, .sipush 600, 3, 600, 0, 0, 0), 14, 0)],
  [((321, .newarray .int, 2, 0, 0, 0, 3), 58, 0), ((323, .putfield 122, 3, 0, 59, 20, 44), 51, 0), ((326, .aload_n 0, 1, 0, 0, 0, 0), 5, 0), ((327, .sipush 2002, 3, 2002, 0, 0, 0), 14, 0), ((330, .newarray .int, 2, 0, 0, 0, 3), 58, 0), ((332, .putfield 125, 3, 0, 70, 20, 45), 51, 0), ((335, .aload_n 0, 1, 0, 0, 0, 0), 5, 0)],
  [((336, .sipush 2002, 3, 2002, 0, 0, 0), 14, 0), ((339, .newarray .int, 2, 0, 0, 0, 3), 58, 0), ((341, .putfield 128, 3, 0, 71, 20, 46), 51, 0), ((344, .aload_n 0, 1, 0, 0, 0, 0), 5, 0), ((345, .sipush 2002, 3, 2002, 0, 0, 0), 14, 0), ((348, .newarray .int, 2, 0, 0, 0, 3), 58, 0), ((350, .putfield 131, 3, 0, 72, 20, 47), 51, 0)],
  [((353, .aload_n 0, 1, 0, 0, 0, 0), 5, 0), ((354, .sipush 2002, 3, 2002, 0, 0, 0), 14, 0), ((357, .newarray .int, 2, 0, 0, 0, 3), 58, 0), ((359, .putfield 134, 3, 0, 73, 20, 48), 51, 0), ((362, .aload_n 0, 1, 0, 0, 0, 0), 5, 0), ((363, .sipush 2002, 3, 2002, 0, 0, 0), 14, 0), ((366, .newarray .long, 2, 10, 0, 0, 16), 58, 0)],
  [((368, .putfield 137, 3, 0, 74, 20, 49), 51, 0), ((371, .aload_n 0, 1, 0, 0, 0, 0), 5, 0), ((372, .sipush 2002, 3, 2002, 0, 0, 0), 14, 0), ((375, .newarray .int, 2, 0, 0, 0, 3), 58, 0), ((377, .putfield 140, 3, 0, 75, 20, 50), 51, 0), ((380, .aload_n 0, 1, 0, 0, 0, 0), 5, 0), ((381, .ldc 143, 2, 60060, 0, 0, 51), 58, 0), ((383, .newarray .int, 2, 0, 0, 0, 3), 58, 0)],
  [((385, .putfield 144, 3, 0, 76, 20, 52), 51, 0), ((388, .aload_n 0, 1, 0, 0, 0, 0), 5, 0), ((389, .sipush 3001, 3, 3001, 0, 0, 0), 14, 0), ((392, .newarray .int, 2, 0, 0, 0, 3), 58, 0), ((394, .putfield 147, 3, 0, 79, 20, 53), 51, 0), ((397, .aload_n 0, 1, 0, 0, 0, 0), 5, 0), ((398, .sipush 3001, 3, 3001, 0, 0, 0), 14, 0)],
  [((401, .newarray .long, 2, 10, 0, 0, 16), 58, 0), ((403, .putfield 150, 3, 0, 80, 20, 54), 51, 0), ((406, .aload_n 0, 1, 0, 0, 0, 0), 5, 0), ((407, .sipush 3001, 3, 3001, 0, 0, 0), 14, 0), ((410, .newarray .int, 2, 0, 0, 0, 3), 58, 0), ((412, .putfield 153, 3, 0, 81, 20, 55), 51, 0), ((415, .aload_n 0, 1, 0, 0, 0, 0), 5, 0)],
  [((416, .sipush 3001, 3, 3001, 0, 0, 0), 14, 0), ((419, .newarray .long, 2, 10, 0, 0, 16), 58, 0), ((421, .putfield 156, 3, 0, 82, 20, 56), 51, 0), ((424, .aload_n 0, 1, 0, 0, 0, 0), 5, 0), ((425, .sipush 3001, 3, 3001, 0, 0, 0), 14, 0), ((428, .newarray .int, 2, 0, 0, 0, 3), 58, 0), ((430, .putfield 159, 3, 0, 83, 20, 57), 51, 0)],
  [((433, .aload_n 0, 1, 0, 0, 0, 0), 5, 0), ((434, .sipush 3001, 3, 3001, 0, 0, 0), 14, 0), ((437, .newarray .int, 2, 0, 0, 0, 3), 58, 0), ((439, .putfield 162, 3, 0, 84, 20, 58), 51, 0), ((442, .aload_n 0, 1, 0, 0, 0, 0), 5, 0), ((443, .sipush 3001, 3, 3001, 0, 0, 0), 14, 0), ((446, .newarray .int, 2, 0, 0, 0, 3), 58, 0)],
  [((448, .putfield 165, 3, 0, 85, 20, 59), 51, 0), ((451, .aload_n 0, 1, 0, 0, 0, 0), 5, 0), ((452, .sipush 4096, 3, 4096, 0, 0, 0), 14, 0), ((455, .newarray .int, 2, 0, 0, 0, 3), 58, 0), ((457, .putfield 168, 3, 0, 86, 20, 60), 51, 0), ((460, .aload_n 0, 1, 0, 0, 0, 0), 5, 0), ((461, .sipush 3001, 3, 3001, 0, 0, 0), 14, 0)],
  [((464, .newarray .int, 2, 0, 0, 0, 3), 58, 0), ((466, .putfield 171, 3, 0, 87, 20, 61), 51, 0), ((469, .aload_n 0, 1, 0, 0, 0, 0), 5, 0), ((470, .ldc 174, 2, 95000, 0, 0, 62), 58, 0), ((472, .newarray .int, 2, 0, 0, 0, 3), 58, 0), ((474, .putfield 175, 3, 0, 92, 20, 63), 51, 0), ((477, .aload_n 0, 1, 0, 0, 0, 0), 5, 0), ((478, .ldc 174, 2, 95000, 0, 0, 62), 58, 0)],
  [((480, .newarray .long, 2, 10, 0, 0, 16), 58, 0), ((482, .putfield 178, 3, 0, 93, 20, 64), 51, 0), ((485, .aload_n 0, 1, 0, 0, 0, 0), 5, 0), ((486, .ldc 174, 2, 95000, 0, 0, 62), 58, 0), ((488, .newarray .boolean, 2, 2, 0, 0, 22), 58, 0), ((490, .putfield 181, 3, 0, 94, 20, 65), 51, 0), ((493, .aload_n 0, 1, 0, 0, 0, 0), 5, 0), ((494, .ldc 174, 2, 95000, 0, 0, 62), 58, 0)],
  [((496, .newarray .int, 2, 0, 0, 0, 3), 58, 0), ((498, .putfield 184, 3, 0, 95, 20, 66), 51, 0), ((501, .aload_n 0, 1, 0, 0, 0, 0), 5, 0), ((502, .bipush 26, 2, 26, 0, 0, 0), 13, 0), ((504, .newarray .int, 2, 0, 0, 0, 3), 58, 0), ((506, .putfield 187, 3, 0, 97, 20, 67), 51, 0), ((509, .aload_n 0, 1, 0, 0, 0, 0), 5, 0), ((510, .bipush 26, 2, 26, 0, 0, 0), 13, 0)],
  [((512, .newarray .int, 2, 0, 0, 0, 3), 58, 0), ((514, .putfield 190, 3, 0, 98, 20, 68), 51, 0), ((517, .aload_n 0, 1, 0, 0, 0, 0), 5, 0), ((518, .bipush 26, 2, 26, 0, 0, 0), 13, 0), ((520, .newarray .int, 2, 0, 0, 0, 3), 58, 0), ((522, .putfield 193, 3, 0, 99, 20, 69), 51, 0), ((525, .aload_n 0, 1, 0, 0, 0, 0), 5, 0), ((526, .bipush 26, 2, 26, 0, 0, 0), 13, 0)],
  [((528, .newarray .long, 2, 10, 0, 0, 16), 58, 0), ((530, .putfield 196, 3, 0, 100, 20, 70), 51, 0), ((533, .aload_n 0, 1, 0, 0, 0, 0), 5, 0), ((534, .bipush 26, 2, 26, 0, 0, 0), 13, 0), ((536, .newarray .int, 2, 0, 0, 0, 3), 58, 0), ((538, .putfield 199, 3, 0, 101, 20, 71), 51, 0), ((541, .aload_n 0, 1, 0, 0, 0, 0), 5, 0), ((542, .bipush 26, 2, 26, 0, 0, 0), 13, 0)],
  [((544, .newarray .int, 2, 0, 0, 0, 3), 58, 0), ((546, .putfield 202, 3, 0, 102, 20, 72), 51, 0), ((549, .aload_n 0, 1, 0, 0, 0, 0), 5, 0), ((550, .bipush 26, 2, 26, 0, 0, 0), 13, 0), ((552, .newarray .int, 2, 0, 0, 0, 3), 58, 0), ((554, .putfield 205, 3, 0, 103, 20, 73), 51, 0), ((557, .aload_n 0, 1, 0, 0, 0, 0), 5, 0), ((558, .bipush 26, 2, 26, 0, 0, 0), 13, 0)],
  [((560, .newarray .int, 2, 0, 0, 0, 3), 58, 0), ((562, .putfield 208, 3, 0, 104, 20, 74), 51, 0), ((565, .aload_n 0, 1, 0, 0, 0, 0), 5, 0), ((566, .bipush 26, 2, 26, 0, 0, 0), 13, 0), ((568, .newarray .int, 2, 0, 0, 0, 3), 58, 0), ((570, .putfield 211, 3, 0, 105, 20, 75), 51, 0), ((573, .aload_n 0, 1, 0, 0, 0, 0), 5, 0), ((574, .bipush 26, 2, 26, 0, 0, 0), 13, 0)],
  [((576, .newarray .int, 2, 0, 0, 0, 3), 58, 0), ((578, .putfield 214, 3, 0, 106, 20, 76), 51, 0), ((581, .aload_n 0, 1, 0, 0, 0, 0), 5, 0), ((582, .bipush 26, 2, 26, 0, 0, 0), 13, 0), ((584, .newarray .int, 2, 0, 0, 0, 3), 58, 0), ((586, .putfield 217, 3, 0, 107, 20, 77), 51, 0), ((589, .aload_n 0, 1, 0, 0, 0, 0), 5, 0), ((590, .bipush 26, 2, 26, 0, 0, 0), 13, 0)],
  [((592, .newarray .int, 2, 0, 0, 0, 3), 58, 0), ((594, .putfield 220, 3, 0, 108, 20, 78), 51, 0), ((597, .aload_n 0, 1, 0, 0, 0, 0), 5, 0), ((598, .bipush 26, 2, 26, 0, 0, 0), 13, 0), ((600, .newarray .int, 2, 0, 0, 0, 3), 58, 0), ((602, .putfield 223, 3, 0, 109, 20, 79), 51, 0), ((605, .aload_n 0, 1, 0, 0, 0, 0), 5, 0), ((606, .ldc 226, 2, 260000, 0, 0, 80), 58, 0)],
  [((608, .newarray .int, 2, 0, 0, 0, 3), 58, 0), ((610, .putfield 227, 3, 0, 112, 20, 81), 51, 0), ((613, .aload_n 0, 1, 0, 0, 0, 0), 5, 0), ((614, .ldc 226, 2, 260000, 0, 0, 80), 58, 0), ((616, .newarray .long, 2, 10, 0, 0, 16), 58, 0), ((618, .putfield 230, 3, 0, 113, 20, 82), 51, 0), ((621, .aload_n 0, 1, 0, 0, 0, 0), 5, 0), ((622, .ldc 233, 2, 52000, 0, 0, 83), 58, 0)],
  [((624, .newarray .int, 2, 0, 0, 0, 3), 58, 0), ((626, .putfield 234, 3, 0, 114, 20, 84), 51, 0), ((629, .aload_n 0, 1, 0, 0, 0, 0), 5, 0), ((630, .sipush 1248, 3, 1248, 0, 0, 0), 14, 0), ((633, .newarray .int, 2, 0, 0, 0, 3), 58, 0), ((635, .putfield 237, 3, 0, 115, 20, 85), 51, 0), ((638, .aload_n 0, 1, 0, 0, 0, 0), 5, 0), ((639, .sipush 1248, 3, 1248, 0, 0, 0), 14, 0)],
  [((642, .newarray .int, 2, 0, 0, 0, 3), 58, 0), ((644, .putfield 240, 3, 0, 116, 20, 86), 51, 0), ((647, .aload_n 0, 1, 0, 0, 0, 0), 5, 0), ((648, .sipush 1248, 3, 1248, 0, 0, 0), 14, 0), ((651, .newarray .int, 2, 0, 0, 0, 3), 58, 0), ((653, .putfield 243, 3, 0, 117, 20, 87), 51, 0)],
  [((656, .aload_n 0, 1, 0, 0, 0, 0), 5, 0), ((657, .sipush 1248, 3, 1248, 0, 0, 0), 14, 0), ((660, .newarray .int, 2, 0, 0, 0, 3), 58, 0), ((662, .putfield 246, 3, 0, 118, 20, 88), 51, 0), ((665, .aload_n 0, 1, 0, 0, 0, 0), 5, 0), ((666, .sipush 1248, 3, 1248, 0, 0, 0), 14, 0), ((669, .newarray .int, 2, 0, 0, 0, 3), 58, 0), ((671, .putfield 249, 3, 0, 119, 20, 89), 51, 0)],
  [((674, .aload_n 0, 1, 0, 0, 0, 0), 5, 0), ((675, .sipush 1248, 3, 1248, 0, 0, 0), 14, 0), ((678, .newarray .int, 2, 0, 0, 0, 3), 58, 0), ((680, .putfield 252, 3, 0, 120, 20, 90), 51, 0), ((683, .aload_n 0, 1, 0, 0, 0, 0), 5, 0), ((684, .sipush 1248, 3, 1248, 0, 0, 0), 14, 0), ((687, .newarray .int, 2, 0, 0, 0, 3), 58, 0)],
  [((689, .putfield 255, 3, 0, 121, 20, 91), 51, 0), ((692, .aload_n 0, 1, 0, 0, 0, 0), 5, 0), ((693, .sipush 1248, 3, 1248, 0, 0, 0), 14, 0), ((696, .newarray .int, 2, 0, 0, 0, 3), 58, 0), ((698, .putfield 258, 3, 0, 122, 20, 92), 51, 0), ((701, .aload_n 0, 1, 0, 0, 0, 0), 5, 0), ((702, .sipush 1248, 3, 1248, 0, 0, 0), 14, 0)],
  [((705, .newarray .int, 2, 0, 0, 0, 3), 58, 0), ((707, .putfield 261, 3, 0, 123, 20, 93), 51, 0), ((710, .aload_n 0, 1, 0, 0, 0, 0), 5, 0), ((711, .sipush 1248, 3, 1248, 0, 0, 0), 14, 0), ((714, .newarray .int, 2, 0, 0, 0, 3), 58, 0), ((716, .putfield 264, 3, 0, 124, 20, 94), 51, 0), ((719, .aload_n 0, 1, 0, 0, 0, 0), 5, 0)],
  [((720, .sipush 1248, 3, 1248, 0, 0, 0), 14, 0), ((723, .newarray .int, 2, 0, 0, 0, 3), 58, 0), ((725, .putfield 267, 3, 0, 125, 20, 95), 51, 0), ((728, .aload_n 0, 1, 0, 0, 0, 0), 5, 0), ((729, .sipush 1248, 3, 1248, 0, 0, 0), 14, 0), ((732, .newarray .int, 2, 0, 0, 0, 3), 58, 0), ((734, .putfield 270, 3, 0, 126, 20, 96), 51, 0)],
  [((737, .aload_n 0, 1, 0, 0, 0, 0), 5, 0), ((738, .sipush 1248, 3, 1248, 0, 0, 0), 14, 0), ((741, .newarray .int, 2, 0, 0, 0, 3), 58, 0), ((743, .putfield 273, 3, 0, 127, 20, 97), 51, 0), ((746, .aload_n 0, 1, 0, 0, 0, 0), 5, 0), ((747, .ldc_w 276, 3, 62400, 0, 0, 98), 58, 0), ((750, .newarray .int, 2, 0, 0, 0, 3), 58, 0)],
  [((752, .putfield 277, 3, 0, 128, 20, 99), 51, 0), ((755, .aload_n 0, 1, 0, 0, 0, 0), 5, 0), ((756, .sipush 128, 3, 128, 0, 0, 0), 14, 0), ((759, .newarray .int, 2, 0, 0, 0, 3), 58, 0), ((761, .putfield 280, 3, 0, 135, 20, 100), 51, 0), ((764, .aload_n 0, 1, 0, 0, 0, 0), 5, 0), ((765, .sipush 128, 3, 128, 0, 0, 0), 14, 0)],
  [((768, .newarray .long, 2, 10, 0, 0, 16), 58, 0), ((770, .putfield 283, 3, 0, 136, 20, 101), 51, 0), ((773, .aload_n 0, 1, 0, 0, 0, 0), 5, 0), ((774, .sipush 128, 3, 128, 0, 0, 0), 14, 0), ((777, .newarray .int, 2, 0, 0, 0, 3), 58, 0), ((779, .putfield 286, 3, 0, 138, 20, 102), 51, 0), ((782, .aload_n 0, 1, 0, 0, 0, 0), 5, 0), ((783, .sipush 128, 3, 128, 0, 0, 0), 14, 0)],
  [((786, .newarray .long, 2, 10, 0, 0, 16), 58, 0), ((788, .putfield 289, 3, 0, 139, 20, 103), 51, 0), ((791, .aload_n 0, 1, 0, 0, 0, 0), 5, 0), ((792, .sipush 128, 3, 128, 0, 0, 0), 14, 0), ((795, .newarray .int, 2, 0, 0, 0, 3), 58, 0), ((797, .putfield 292, 3, 0, 146, 20, 104), 51, 0)],
  [((800, .aload_n 0, 1, 0, 0, 0, 0), 5, 0), ((801, .sipush 128, 3, 128, 0, 0, 0), 14, 0), ((804, .newarray .long, 2, 10, 0, 0, 16), 58, 0), ((806, .putfield 295, 3, 0, 147, 20, 105), 51, 0), ((809, .aload_n 0, 1, 0, 0, 0, 0), 5, 0), ((810, .sipush 3000, 3, 3000, 0, 0, 0), 14, 0), ((813, .newarray .byte, 2, 1, 0, 0, 6), 58, 0), ((815, .putfield 298, 3, 0, 149, 20, 106), 51, 0)],
  [((818, .aload_n 0, 1, 0, 0, 0, 0), 5, 0), ((819, .sipush 4004, 3, 4004, 0, 0, 0), 14, 0), ((822, .newarray .int, 2, 0, 0, 0, 3), 58, 0), ((824, .putfield 301, 3, 0, 151, 20, 107), 51, 0), ((827, .aload_n 0, 1, 0, 0, 0, 0), 5, 0), ((828, .sipush 2002, 3, 2002, 0, 0, 0), 14, 0), ((831, .newarray .boolean, 2, 2, 0, 0, 22), 58, 0)],
  [((833, .putfield 304, 3, 0, 154, 20, 108), 51, 0), ((836, .aload_n 0, 1, 0, 0, 0, 0), 5, 0), ((837, .bipush 26, 2, 26, 0, 0, 0), 13, 0), ((839, .newarray .boolean, 2, 2, 0, 0, 22), 58, 0), ((841, .putfield 307, 3, 0, 155, 20, 109), 51, 0), ((844, .aload_n 0, 1, 0, 0, 0, 0), 5, 0), ((845, .sipush 2004, 3, 2004, 0, 0, 0), 14, 0)],
  [((848, .newarray .int, 2, 0, 0, 0, 3), 58, 0), ((850, .putfield 310, 3, 0, 156, 20, 110), 51, 0), ((853, .aload_n 0, 1, 0, 0, 0, 0), 5, 0), ((854, .sipush 2002, 3, 2002, 0, 0, 0), 14, 0), ((857, .newarray .int, 2, 0, 0, 0, 3), 58, 0), ((859, .putfield 313, 3, 0, 158, 20, 111), 51, 0), ((862, .aload_n 0, 1, 0, 0, 0, 0), 5, 0), ((863, .sipush 3001, 3, 3001, 0, 0, 0), 14, 0)],
  [((866, .newarray .int, 2, 0, 0, 0, 3), 58, 0), ((868, .putfield 316, 3, 0, 159, 20, 112), 51, 0), ((871, .iconst 0, 1, 0, 0, 0, 0), 12, 0), ((872, .istore_n 1, 1, 0, 0, 0, 0), 7, 1), ((873, .iload_n 1, 1, 0, 0, 0, 0), 1, 1), ((874, .sipush 1024, 3, 1024, 0, 0, 0), 14, 0), ((877, .if_icmp .ge 16, 3, 893, 0, 0, 0), 47, 0)],
  [((880, .aload_n 0, 1, 0, 0, 0, 0), 5, 0), ((881, .getfield 30, 3, 0, 13, 20, 12), 50, 0), ((884, .iload_n 1, 1, 0, 0, 0, 0), 1, 1), ((885, .iconst (-1), 1, 4294967295, 0, 0, 0), 12, 0), ((886, .iastore, 1, 0, 0, 0, 0), 53, 0), ((887, .iinc 1 1, 3, 1, 0, 0, 0), 36, 1), ((890, .goto (-17), 3, 873, 0, 0, 0), 37, 0), ((893, .aload_n 0, 1, 0, 0, 0, 0), 5, 0), ((894, .invokevirtual 319, 3, 1, 1, 0, 113), 56, 0)],
  [((897, .aload_n 0, 1, 0, 0, 0, 0), 5, 0), ((898, .aload_n 0, 1, 0, 0, 0, 0), 5, 0), ((899, .getfield 322, 3, 0, 14, 0, 114), 50, 0), ((902, .putfield 326, 3, 0, 65, 0, 115), 51, 0), ((905, .aload_n 0, 1, 0, 0, 0, 0), 5, 0), ((906, .aload_n 0, 1, 0, 0, 0, 0), 5, 0), ((907, .getfield 329, 3, 0, 8, 0, 116), 50, 0), ((910, .putfield 332, 3, 0, 66, 0, 117), 51, 0)],
  [((913, .return_, 1, 0, 0, 0, 0), 1000, 0)]])
def mo_mX12_internBuilt : ev_MeK := (mo_yX12_internBuilt, prog_14_method_8_code, 2, none, [[((0, .aload_n 0, 1, 0, 0, 0, 0), 5, 0), ((1, .ldc2_w 352, 3, 26845029215790456, 0, 0, 118), 58, 0), ((4, .lconst 0, 1, 0, 0, 0, 0), 15, 0), ((5, .iconst 0, 1, 0, 0, 0, 0), 12, 0), ((6, .invokevirtual 354, 3, 4, 4, 0, 119), 56, 0), ((9, .istore_n 1, 1, 0, 0, 0, 0), 7, 1), ((10, .aload_n 0, 1, 0, 0, 0, 0), 5, 0), ((11, .ldc2_w 358, 3, 6872332938464816740, 0, 0, 120), 58, 0), ((14, .ldc2_w 360, 3, 25976, 0, 0, 121), 58, 0)],
  [((17, .iconst 0, 1, 0, 0, 0, 0), 12, 0), ((18, .invokevirtual 354, 3, 4, 4, 0, 119), 56, 0), ((21, .istore_n 1, 1, 0, 0, 0, 0), 7, 1), ((22, .aload_n 0, 1, 0, 0, 0, 0), 5, 0), ((23, .ldc2_w 362, 3, 104863293860972, 0, 0, 122), 58, 0), ((26, .lconst 0, 1, 0, 0, 0, 0), 15, 0), ((27, .iconst 0, 1, 0, 0, 0, 0), 12, 0), ((28, .invokevirtual 354, 3, 4, 4, 0, 119), 56, 0), ((31, .istore_n 1, 1, 0, 0, 0, 0), 7, 1)],
  [((32, .aload_n 0, 1, 0, 0, 0, 0), 5, 0), ((33, .ldc2_w 364, 3, 409622111332, 0, 0, 123), 58, 0), ((36, .lconst 0, 1, 0, 0, 0, 0), 15, 0), ((37, .iconst 0, 1, 0, 0, 0, 0), 12, 0), ((38, .invokevirtual 354, 3, 4, 4, 0, 119), 56, 0), ((41, .istore_n 1, 1, 0, 0, 0, 0), 7, 1), ((42, .aload_n 0, 1, 0, 0, 0, 0), 5, 0), ((43, .ldc2_w 366, 3, 409623295330, 0, 0, 124), 58, 0), ((46, .lconst 0, 1, 0, 0, 0, 0), 15, 0), ((47, .iconst 0, 1, 0, 0, 0, 0), 12, 0)],
  [((48, .invokevirtual 354, 3, 4, 4, 0, 119), 56, 0), ((51, .istore_n 1, 1, 0, 0, 0, 0), 7, 1), ((52, .aload_n 0, 1, 0, 0, 0, 0), 5, 0), ((53, .ldc2_w 368, 3, 409622902124, 0, 0, 125), 58, 0), ((56, .lconst 0, 1, 0, 0, 0, 0), 15, 0), ((57, .iconst 0, 1, 0, 0, 0, 0), 12, 0), ((58, .invokevirtual 354, 3, 4, 4, 0, 119), 56, 0), ((61, .istore_n 1, 1, 0, 0, 0, 0), 7, 1), ((62, .aload_n 0, 1, 0, 0, 0, 0), 5, 0), ((63, .ldc2_w 370, 3, 104863394720118, 0, 0, 126), 58, 0)],
  [((66, .lconst 0, 1, 0, 0, 0, 0), 15, 0), ((67, .iconst 0, 1, 0, 0, 0, 0), 12, 0), ((68, .invokevirtual 354, 3, 4, 4, 0, 119), 56, 0), ((71, .istore_n 1, 1, 0, 0, 0, 0), 7, 1), ((72, .aload_n 0, 1, 0, 0, 0, 0), 5, 0), ((73, .ldc2_w 372, 3, 409622900580, 0, 0, 127), 58, 0), ((76, .lconst 0, 1, 0, 0, 0, 0), 15, 0), ((77, .iconst 0, 1, 0, 0, 0, 0), 12, 0), ((78, .invokevirtual 354, 3, 4, 4, 0, 119), 56, 0)],
  [((81, .istore_n 1, 1, 0, 0, 0, 0), 7, 1), ((82, .aload_n 0, 1, 0, 0, 0, 0), 5, 0), ((83, .ldc2_w 374, 3, 104863277084260, 0, 0, 128), 58, 0), ((86, .lconst 0, 1, 0, 0, 0, 0), 15, 0), ((87, .iconst 0, 1, 0, 0, 0, 0), 12, 0), ((88, .invokevirtual 354, 3, 4, 4, 0, 119), 56, 0), ((91, .istore_n 1, 1, 0, 0, 0, 0), 7, 1), ((92, .aload_n 0, 1, 0, 0, 0, 0), 5, 0), ((93, .ldc2_w 376, 3, 409622179698, 0, 0, 129), 58, 0)],
  [((96, .lconst 0, 1, 0, 0, 0, 0), 15, 0), ((97, .iconst 0, 1, 0, 0, 0, 0), 12, 0), ((98, .invokevirtual 354, 3, 4, 4, 0, 119), 56, 0), ((101, .istore_n 1, 1, 0, 0, 0, 0), 7, 1), ((102, .aload_n 0, 1, 0, 0, 0, 0), 5, 0), ((103, .ldc2_w 378, 3, 104863278591858, 0, 0, 130), 58, 0), ((106, .lconst 0, 1, 0, 0, 0, 0), 15, 0), ((107, .iconst 0, 1, 0, 0, 0, 0), 12, 0), ((108, .invokevirtual 354, 3, 4, 4, 0, 119), 56, 0), ((111, .istore_n 1, 1, 0, 0, 0, 0), 7, 1)],
  [((112, .aload_n 0, 1, 0, 0, 0, 0), 5, 0), ((113, .ldc2_w 380, 3, 409623292012, 0, 0, 131), 58, 0), ((116, .lconst 0, 1, 0, 0, 0, 0), 15, 0), ((117, .iconst 0, 1, 0, 0, 0, 0), 12, 0), ((118, .invokevirtual 354, 3, 4, 4, 0, 119), 56, 0), ((121, .istore_n 1, 1, 0, 0, 0, 0), 7, 1), ((122, .aload_n 0, 1, 0, 0, 0, 0), 5, 0), ((123, .ldc2_w 382, 3, 409623292018, 0, 0, 132), 58, 0), ((126, .lconst 0, 1, 0, 0, 0, 0), 15, 0), ((127, .iconst 0, 1, 0, 0, 0, 0), 12, 0)],
  [((128, .invokevirtual 354, 3, 4, 4, 0, 119), 56, 0), ((131, .istore_n 1, 1, 0, 0, 0, 0), 7, 1), ((132, .aload_n 0, 1, 0, 0, 0, 0), 5, 0), ((133, .ldc2_w 384, 3, 409623424621, 0, 0, 133), 58, 0), ((136, .lconst 0, 1, 0, 0, 0, 0), 15, 0), ((137, .iconst 0, 1, 0, 0, 0, 0), 12, 0), ((138, .invokevirtual 354, 3, 4, 4, 0, 119), 56, 0), ((141, .istore_n 1, 1, 0, 0, 0, 0), 7, 1), ((142, .aload_n 0, 1, 0, 0, 0, 0), 5, 0), ((143, .ldc2_w 386, 3, 104863277936500, 0, 0, 134), 58, 0)],
  [((146, .lconst 0, 1, 0, 0, 0, 0), 15, 0), ((147, .iconst 0, 1, 0, 0, 0, 0), 12, 0), ((148, .invokevirtual 354, 3, 4, 4, 0, 119), 56, 0), ((151, .istore_n 1, 1, 0, 0, 0, 0), 7, 1), ((152, .aload_n 0, 1, 0, 0, 0, 0), 5, 0), ((153, .ldc2_w 388, 3, 6872320886635192692, 0, 0, 135), 58, 0), ((156, .lconst 0, 1, 0, 0, 0, 0), 15, 0), ((157, .iconst 0, 1, 0, 0, 0, 0), 12, 0), ((158, .invokevirtual 354, 3, 4, 4, 0, 119), 56, 0)],
  [((161, .istore_n 1, 1, 0, 0, 0, 0), 7, 1), ((162, .aload_n 0, 1, 0, 0, 0, 0), 5, 0), ((163, .ldc2_w 390, 3, 409622832494, 0, 0, 136), 58, 0), ((166, .lconst 0, 1, 0, 0, 0, 0), 15, 0), ((167, .iconst 0, 1, 0, 0, 0, 0), 12, 0), ((168, .invokevirtual 354, 3, 4, 4, 0, 119), 56, 0), ((171, .istore_n 1, 1, 0, 0, 0, 0), 7, 1), ((172, .aload_n 0, 1, 0, 0, 0, 0), 5, 0), ((173, .ldc2_w 392, 3, 1600087409, 0, 0, 137), 58, 0)],
  [((176, .lconst 0, 1, 0, 0, 0, 0), 15, 0), ((177, .iconst 0, 1, 0, 0, 0, 0), 12, 0), ((178, .invokevirtual 354, 3, 4, 4, 0, 119), 56, 0), ((181, .istore_n 1, 1, 0, 0, 0, 0), 7, 1), ((182, .aload_n 0, 1, 0, 0, 0, 0), 5, 0), ((183, .ldc2_w 394, 3, 1600089204, 0, 0, 138), 58, 0), ((186, .lconst 0, 1, 0, 0, 0, 0), 15, 0), ((187, .iconst 0, 1, 0, 0, 0, 0), 12, 0), ((188, .invokevirtual 354, 3, 4, 4, 0, 119), 56, 0), ((191, .istore_n 1, 1, 0, 0, 0, 0), 7, 1)],
  [((192, .aload_n 0, 1, 0, 0, 0, 0), 5, 0), ((193, .ldc2_w 396, 3, 1600089189, 0, 0, 139), 58, 0), ((196, .lconst 0, 1, 0, 0, 0, 0), 15, 0), ((197, .iconst 0, 1, 0, 0, 0, 0), 12, 0), ((198, .invokevirtual 354, 3, 4, 4, 0, 119), 56, 0), ((201, .istore_n 1, 1, 0, 0, 0, 0), 7, 1), ((202, .aload_n 0, 1, 0, 0, 0, 0), 5, 0), ((203, .ldc2_w 398, 3, 1600087907, 0, 0, 140), 58, 0), ((206, .lconst 0, 1, 0, 0, 0, 0), 15, 0), ((207, .iconst 0, 1, 0, 0, 0, 0), 12, 0)],
  [((208, .invokevirtual 354, 3, 4, 4, 0, 119), 56, 0), ((211, .istore_n 1, 1, 0, 0, 0, 0), 7, 1), ((212, .aload_n 0, 1, 0, 0, 0, 0), 5, 0), ((213, .ldc2_w 400, 3, 104863462548581, 0, 0, 141), 58, 0), ((216, .lconst 0, 1, 0, 0, 0, 0), 15, 0), ((217, .iconst 0, 1, 0, 0, 0, 0), 12, 0), ((218, .invokevirtual 354, 3, 4, 4, 0, 119), 56, 0), ((221, .istore_n 1, 1, 0, 0, 0, 0), 7, 1), ((222, .aload_n 0, 1, 0, 0, 0, 0), 5, 0), ((223, .invokevirtual 402, 3, 2, 1, 0, 142), 56, 0)],
  [((226, .aload_n 0, 1, 0, 0, 0, 0), 5, 0), ((227, .invokevirtual 405, 3, 3, 1, 0, 143), 56, 0), ((230, .return_, 1, 0, 0, 0, 0), 1000, 0)]])
def mo_mX12_internTypes : ev_MeK := (mo_yX12_internTypes, prog_14_method_9_code, 2, none, [[((0, .aload_n 0, 1, 0, 0, 0, 0), 5, 0), ((1, .ldc2_w 408, 3, 7235948, 0, 0, 144), 58, 0), ((4, .lconst 0, 1, 0, 0, 0, 0), 15, 0), ((5, .iconst 0, 1, 0, 0, 0, 0), 12, 0), ((6, .invokevirtual 354, 3, 4, 4, 0, 119), 56, 0), ((9, .istore_n 1, 1, 0, 0, 0, 0), 7, 1), ((10, .aload_n 0, 1, 0, 0, 0, 0), 5, 0), ((11, .ldc2_w 410, 3, 27707072068280686, 0, 0, 145), 58, 0), ((14, .lconst 0, 1, 0, 0, 0, 0), 15, 0), ((15, .iconst 0, 1, 0, 0, 0, 0), 12, 0)],
  [((16, .invokevirtual 354, 3, 4, 4, 0, 119), 56, 0), ((19, .istore_n 1, 1, 0, 0, 0, 0), 7, 1), ((20, .aload_n 0, 1, 0, 0, 0, 0), 5, 0), ((21, .ldc2_w 412, 3, 121450625394034, 0, 0, 146), 58, 0), ((24, .lconst 0, 1, 0, 0, 0, 0), 15, 0), ((25, .iconst 0, 1, 0, 0, 0, 0), 12, 0), ((26, .invokevirtual 354, 3, 4, 4, 0, 119), 56, 0), ((29, .istore_n 1, 1, 0, 0, 0, 0), 7, 1), ((30, .aload_n 0, 1, 0, 0, 0, 0), 5, 0), ((31, .ldc2_w 414, 3, 126943972912743, 0, 0, 147), 58, 0)],
  [((34, .lconst 0, 1, 0, 0, 0, 0), 15, 0), ((35, .iconst 0, 1, 0, 0, 0, 0), 12, 0), ((36, .invokevirtual 354, 3, 4, 4, 0, 119), 56, 0), ((39, .istore_n 1, 1, 0, 0, 0, 0), 7, 1), ((40, .aload_n 0, 1, 0, 0, 0, 0), 5, 0), ((41, .ldc2_w 416, 3, 499850046565, 0, 0, 148), 58, 0), ((44, .lconst 0, 1, 0, 0, 0, 0), 15, 0), ((45, .iconst 0, 1, 0, 0, 0, 0), 12, 0), ((46, .invokevirtual 354, 3, 4, 4, 0, 119), 56, 0)],
  [((49, .istore_n 1, 1, 0, 0, 0, 0), 7, 1), ((50, .aload_n 0, 1, 0, 0, 0, 0), 5, 0), ((51, .ldc2_w 418, 3, 7382928537577680750, 0, 0, 149), 58, 0), ((54, .lconst 0, 1, 0, 0, 0, 0), 15, 0), ((55, .iconst 0, 1, 0, 0, 0, 0), 12, 0), ((56, .invokevirtual 354, 3, 4, 4, 0, 119), 56, 0), ((59, .istore_n 1, 1, 0, 0, 0, 0), 7, 1), ((60, .aload_n 0, 1, 0, 0, 0, 0), 5, 0), ((61, .ldc2_w 420, 3, 127991944667492, 0, 0, 150), 58, 0)],
  [((64, .lconst 0, 1, 0, 0, 0, 0), 15, 0), ((65, .iconst 0, 1, 0, 0, 0, 0), 12, 0), ((66, .invokevirtual 354, 3, 4, 4, 0, 119), 56, 0), ((69, .istore_n 1, 1, 0, 0, 0, 0), 7, 1), ((70, .aload_n 0, 1, 0, 0, 0, 0), 5, 0), ((71, .ldc2_w 422, 3, 7234935, 0, 0, 151), 58, 0), ((74, .lconst 0, 1, 0, 0, 0, 0), 15, 0), ((75, .iconst 1, 1, 1, 0, 0, 0), 12, 0), ((76, .invokevirtual 354, 3, 4, 4, 0, 119), 56, 0), ((79, .istore_n 1, 1, 0, 0, 0, 0), 7, 1)],
  [((80, .aload_n 0, 1, 0, 0, 0, 0), 5, 0), ((81, .ldc2_w 424, 3, 32497644298331492, 0, 0, 152), 58, 0), ((84, .lconst 0, 1, 0, 0, 0, 0), 15, 0), ((85, .iconst 0, 1, 0, 0, 0, 0), 12, 0), ((86, .invokevirtual 354, 3, 4, 4, 0, 119), 56, 0), ((89, .istore_n 1, 1, 0, 0, 0, 0), 7, 1), ((90, .aload_n 0, 1, 0, 0, 0, 0), 5, 0), ((91, .ldc2_w 426, 3, 32217264504270439, 0, 0, 153), 58, 0), ((94, .lconst 0, 1, 0, 0, 0, 0), 15, 0), ((95, .iconst 1, 1, 1, 0, 0, 0), 12, 0)],
  [((96, .invokevirtual 354, 3, 4, 4, 0, 119), 56, 0), ((99, .istore_n 1, 1, 0, 0, 0, 0), 7, 1), ((100, .aload_n 0, 1, 0, 0, 0, 0), 5, 0), ((101, .ldc2_w 428, 3, 121424940196204, 0, 0, 154), 58, 0), ((104, .lconst 0, 1, 0, 0, 0, 0), 15, 0), ((105, .iconst 0, 1, 0, 0, 0, 0), 12, 0), ((106, .invokevirtual 354, 3, 4, 4, 0, 119), 56, 0), ((109, .istore_n 1, 1, 0, 0, 0, 0), 7, 1), ((110, .aload_n 0, 1, 0, 0, 0, 0), 5, 0), ((111, .ldc2_w 430, 3, 1684365668, 0, 0, 155), 58, 0)],
  [((114, .lconst 0, 1, 0, 0, 0, 0), 15, 0), ((115, .iconst 0, 1, 0, 0, 0, 0), 12, 0), ((116, .invokevirtual 354, 3, 4, 4, 0, 119), 56, 0), ((119, .istore_n 1, 1, 0, 0, 0, 0), 7, 1), ((120, .aload_n 0, 1, 0, 0, 0, 0), 5, 0), ((121, .ldc2_w 432, 3, 7094703752064557426, 0, 0, 156), 58, 0), ((124, .ldc2_w 434, 3, 116, 0, 0, 157), 58, 0), ((127, .iconst 0, 1, 0, 0, 0, 0), 12, 0)],
  [((128, .invokevirtual 354, 3, 4, 4, 0, 119), 56, 0), ((131, .istore_n 1, 1, 0, 0, 0, 0), 7, 1), ((132, .aload_n 0, 1, 0, 0, 0, 0), 5, 0), ((133, .ldc2_w 436, 3, 7234295459109429618, 0, 0, 158), 58, 0), ((136, .ldc2_w 434, 3, 116, 0, 0, 157), 58, 0), ((139, .iconst 0, 1, 0, 0, 0, 0), 12, 0), ((140, .invokevirtual 354, 3, 4, 4, 0, 119), 56, 0), ((143, .istore_n 1, 1, 0, 0, 0, 0), 7, 1)],
  [((144, .aload_n 0, 1, 0, 0, 0, 0), 5, 0), ((145, .ldc2_w 438, 3, 110, 0, 0, 159), 58, 0), ((148, .lconst 0, 1, 0, 0, 0, 0), 15, 0), ((149, .iconst 1, 1, 1, 0, 0, 0), 12, 0), ((150, .invokevirtual 354, 3, 4, 4, 0, 119), 56, 0), ((153, .istore_n 1, 1, 0, 0, 0, 0), 7, 1), ((154, .return_, 1, 0, 0, 0, 0), 1000, 0)]])
def mo_mX12_internNames : ev_MeK := (mo_yX12_internNames, prog_14_method_10_code, 2, none, [[((0, .aload_n 0, 1, 0, 0, 0, 0), 5, 0), ((1, .ldc2_w 440, 3, 482955849332, 0, 0, 160), 58, 0), ((4, .lconst 0, 1, 0, 0, 0, 0), 15, 0), ((5, .iconst 1, 1, 1, 0, 0, 0), 12, 0), ((6, .invokevirtual 354, 3, 4, 4, 0, 119), 56, 0), ((9, .istore_n 1, 1, 0, 0, 0, 0), 7, 1), ((10, .aload_n 0, 1, 0, 0, 0, 0), 5, 0), ((11, .ldc2_w 442, 3, 1954115685, 0, 0, 161), 58, 0), ((14, .lconst 0, 1, 0, 0, 0, 0), 15, 0), ((15, .iconst 1, 1, 1, 0, 0, 0), 12, 0)],
  [((16, .invokevirtual 354, 3, 4, 4, 0, 119), 56, 0), ((19, .istore_n 1, 1, 0, 0, 0, 0), 7, 1), ((20, .aload_n 0, 1, 0, 0, 0, 0), 5, 0), ((21, .ldc2_w 444, 3, 8390051574787436135, 0, 0, 162), 58, 0), ((24, .lconst 0, 1, 0, 0, 0, 0), 15, 0), ((25, .iconst 1, 1, 1, 0, 0, 0), 12, 0), ((26, .invokevirtual 354, 3, 4, 4, 0, 119), 56, 0), ((29, .istore_n 1, 1, 0, 0, 0, 0), 7, 1), ((30, .aload_n 0, 1, 0, 0, 0, 0), 5, 0), ((31, .ldc2_w 446, 3, 8390046081439917426, 0, 0, 163), 58, 0)],
  [((34, .lconst 0, 1, 0, 0, 0, 0), 15, 0), ((35, .iconst 1, 1, 1, 0, 0, 0), 12, 0), ((36, .invokevirtual 354, 3, 4, 4, 0, 119), 56, 0), ((39, .istore_n 1, 1, 0, 0, 0, 0), 7, 1), ((40, .aload_n 0, 1, 0, 0, 0, 0), 5, 0), ((41, .ldc2_w 448, 3, 1852143732, 0, 0, 164), 58, 0), ((44, .lconst 0, 1, 0, 0, 0, 0), 15, 0), ((45, .iconst 1, 1, 1, 0, 0, 0), 12, 0), ((46, .invokevirtual 354, 3, 4, 4, 0, 119), 56, 0)],
  [((49, .istore_n 1, 1, 0, 0, 0, 0), 7, 1), ((50, .aload_n 0, 1, 0, 0, 0, 0), 5, 0), ((51, .ldc2_w 450, 3, 482670637683, 0, 0, 165), 58, 0), ((54, .lconst 0, 1, 0, 0, 0, 0), 15, 0), ((55, .iconst 1, 1, 1, 0, 0, 0), 12, 0), ((56, .invokevirtual 354, 3, 4, 4, 0, 119), 56, 0), ((59, .istore_n 1, 1, 0, 0, 0, 0), 7, 1), ((60, .aload_n 0, 1, 0, 0, 0, 0), 5, 0), ((61, .ldc2_w 452, 3, 115931391554163, 0, 0, 166), 58, 0)],
  [((64, .lconst 0, 1, 0, 0, 0, 0), 15, 0), ((65, .iconst 1, 1, 1, 0, 0, 0), 12, 0), ((66, .invokevirtual 354, 3, 4, 4, 0, 119), 56, 0), ((69, .istore_n 1, 1, 0, 0, 0, 0), 7, 1), ((70, .aload_n 0, 1, 0, 0, 0, 0), 5, 0), ((71, .ldc2_w 454, 3, 125762940659060, 0, 0, 167), 58, 0), ((74, .lconst 0, 1, 0, 0, 0, 0), 15, 0), ((75, .iconst 1, 1, 1, 0, 0, 0), 12, 0), ((76, .invokevirtual 354, 3, 4, 4, 0, 119), 56, 0), ((79, .istore_n 1, 1, 0, 0, 0, 0), 7, 1)],
  [((80, .aload_n 0, 1, 0, 0, 0, 0), 5, 0), ((81, .ldc2_w 456, 3, 125762941445492, 0, 0, 168), 58, 0), ((84, .lconst 0, 1, 0, 0, 0, 0), 15, 0), ((85, .iconst 1, 1, 1, 0, 0, 0), 12, 0), ((86, .invokevirtual 354, 3, 4, 4, 0, 119), 56, 0), ((89, .istore_n 1, 1, 0, 0, 0, 0), 7, 1), ((90, .aload_n 0, 1, 0, 0, 0, 0), 5, 0), ((91, .ldc2_w 458, 3, 8242000070643638636, 0, 0, 169), 58, 0), ((94, .lconst 0, 1, 0, 0, 0, 0), 15, 0), ((95, .iconst 1, 1, 1, 0, 0, 0), 12, 0)],
  [((96, .invokevirtual 354, 3, 4, 4, 0, 119), 56, 0), ((99, .istore_n 1, 1, 0, 0, 0, 0), 7, 1), ((100, .aload_n 0, 1, 0, 0, 0, 0), 5, 0), ((101, .ldc2_w 460, 3, 125762940986734, 0, 0, 170), 58, 0), ((104, .lconst 0, 1, 0, 0, 0, 0), 15, 0), ((105, .iconst 1, 1, 1, 0, 0, 0), 12, 0), ((106, .invokevirtual 354, 3, 4, 4, 0, 119), 56, 0), ((109, .istore_n 1, 1, 0, 0, 0, 0), 7, 1), ((110, .aload_n 0, 1, 0, 0, 0, 0), 5, 0), ((111, .ldc2_w 462, 3, 7450489171756736884, 0, 0, 171), 58, 0)],
  [((114, .ldc2_w 464, 3, 1633840229, 0, 0, 172), 58, 0), ((117, .iconst 1, 1, 1, 0, 0, 0), 12, 0), ((118, .invokevirtual 354, 3, 4, 4, 0, 119), 56, 0), ((121, .istore_n 1, 1, 0, 0, 0, 0), 7, 1), ((122, .aload_n 0, 1, 0, 0, 0, 0), 5, 0), ((123, .ldc2_w 466, 3, 8315180300211872116, 0, 0, 173), 58, 0), ((126, .ldc2_w 464, 3, 1633840229, 0, 0, 172), 58, 0)],
  [((129, .iconst 1, 1, 1, 0, 0, 0), 12, 0), ((130, .invokevirtual 354, 3, 4, 4, 0, 119), 56, 0), ((133, .istore_n 1, 1, 0, 0, 0, 0), 7, 1), ((134, .aload_n 0, 1, 0, 0, 0, 0), 5, 0), ((135, .ldc2_w 468, 3, 435711799154, 0, 0, 174), 58, 0), ((138, .lconst 0, 1, 0, 0, 0, 0), 15, 0), ((139, .iconst 1, 1, 1, 0, 0, 0), 12, 0), ((140, .invokevirtual 354, 3, 4, 4, 0, 119), 56, 0), ((143, .istore_n 1, 1, 0, 0, 0, 0), 7, 1)],
  [((144, .aload_n 0, 1, 0, 0, 0, 0), 5, 0), ((145, .ldc2_w 470, 3, 482703666284, 0, 0, 175), 58, 0), ((148, .lconst 0, 1, 0, 0, 0, 0), 15, 0), ((149, .iconst 1, 1, 1, 0, 0, 0), 12, 0), ((150, .invokevirtual 354, 3, 4, 4, 0, 119), 56, 0), ((153, .istore_n 1, 1, 0, 0, 0, 0), 7, 1), ((154, .aload_n 0, 1, 0, 0, 0, 0), 5, 0), ((155, .ldc2_w 472, 3, 126879447475060, 0, 0, 176), 58, 0), ((158, .lconst 0, 1, 0, 0, 0, 0), 15, 0), ((159, .iconst 1, 1, 1, 0, 0, 0), 12, 0)],
  [((160, .invokevirtual 354, 3, 4, 4, 0, 119), 56, 0), ((163, .istore_n 1, 1, 0, 0, 0, 0), 7, 1), ((164, .aload_n 0, 1, 0, 0, 0, 0), 5, 0), ((165, .ldc2_w 474, 3, 27988534160089972, 0, 0, 177), 58, 0), ((168, .lconst 0, 1, 0, 0, 0, 0), 15, 0), ((169, .iconst 1, 1, 1, 0, 0, 0), 12, 0), ((170, .invokevirtual 354, 3, 4, 4, 0, 119), 56, 0), ((173, .istore_n 1, 1, 0, 0, 0, 0), 7, 1), ((174, .aload_n 0, 1, 0, 0, 0, 0), 5, 0), ((175, .ldc2_w 476, 3, 1818850164, 0, 0, 178), 58, 0)],
  [((178, .lconst 0, 1, 0, 0, 0, 0), 15, 0), ((179, .iconst 1, 1, 1, 0, 0, 0), 12, 0), ((180, .invokevirtual 354, 3, 4, 4, 0, 119), 56, 0), ((183, .istore_n 1, 1, 0, 0, 0, 0), 7, 1), ((184, .aload_n 0, 1, 0, 0, 0, 0), 5, 0), ((185, .ldc2_w 478, 3, 1952807028, 0, 0, 179), 58, 0), ((188, .lconst 0, 1, 0, 0, 0, 0), 15, 0), ((189, .iconst 1, 1, 1, 0, 0, 0), 12, 0), ((190, .invokevirtual 354, 3, 4, 4, 0, 119), 56, 0)],
  [((193, .istore_n 1, 1, 0, 0, 0, 0), 7, 1), ((194, .aload_n 0, 1, 0, 0, 0, 0), 5, 0), ((195, .ldc2_w 480, 3, 1885434484, 0, 0, 180), 58, 0), ((198, .lconst 0, 1, 0, 0, 0, 0), 15, 0), ((199, .iconst 1, 1, 1, 0, 0, 0), 12, 0), ((200, .invokevirtual 354, 3, 4, 4, 0, 119), 56, 0), ((203, .istore_n 1, 1, 0, 0, 0, 0), 7, 1), ((204, .aload_n 0, 1, 0, 0, 0, 0), 5, 0), ((205, .ldc2_w 482, 3, 115923103347316, 0, 0, 181), 58, 0)],
  [((208, .lconst 0, 1, 0, 0, 0, 0), 15, 0), ((209, .iconst 1, 1, 1, 0, 0, 0), 12, 0), ((210, .invokevirtual 354, 3, 4, 4, 0, 119), 56, 0), ((213, .istore_n 1, 1, 0, 0, 0, 0), 7, 1), ((214, .aload_n 0, 1, 0, 0, 0, 0), 5, 0), ((215, .ldc2_w 484, 3, 125779953284709, 0, 0, 182), 58, 0), ((218, .lconst 0, 1, 0, 0, 0, 0), 15, 0), ((219, .iconst 1, 1, 1, 0, 0, 0), 12, 0), ((220, .invokevirtual 354, 3, 4, 4, 0, 119), 56, 0), ((223, .istore_n 1, 1, 0, 0, 0, 0), 7, 1)],
  [((224, .aload_n 0, 1, 0, 0, 0, 0), 5, 0), ((225, .ldc2_w 486, 3, 109330244526452, 0, 0, 183), 58, 0), ((228, .lconst 0, 1, 0, 0, 0, 0), 15, 0), ((229, .iconst 1, 1, 1, 0, 0, 0), 12, 0), ((230, .invokevirtual 354, 3, 4, 4, 0, 119), 56, 0), ((233, .istore_n 1, 1, 0, 0, 0, 0), 7, 1), ((234, .aload_n 0, 1, 0, 0, 0, 0), 5, 0), ((235, .ldc2_w 488, 3, 1885430635, 0, 0, 184), 58, 0), ((238, .lconst 0, 1, 0, 0, 0, 0), 15, 0), ((239, .iconst 1, 1, 1, 0, 0, 0), 12, 0)],
  [((240, .invokevirtual 354, 3, 4, 4, 0, 119), 56, 0), ((243, .istore_n 1, 1, 0, 0, 0, 0), 7, 1), ((244, .aload_n 0, 1, 0, 0, 0, 0), 5, 0), ((245, .ldc2_w 490, 3, 129117192282987, 0, 0, 185), 58, 0), ((248, .lconst 0, 1, 0, 0, 0, 0), 15, 0), ((249, .iconst 1, 1, 1, 0, 0, 0), 12, 0), ((250, .invokevirtual 354, 3, 4, 4, 0, 119), 56, 0), ((253, .istore_n 1, 1, 0, 0, 0, 0), 7, 1), ((254, .aload_n 0, 1, 0, 0, 0, 0), 5, 0), ((255, .ldc2_w 492, 3, 7566690, 0, 0, 186), 58, 0)],
  [((258, .lconst 0, 1, 0, 0, 0, 0), 15, 0), ((259, .iconst 1, 1, 1, 0, 0, 0), 12, 0), ((260, .invokevirtual 354, 3, 4, 4, 0, 119), 56, 0), ((263, .istore_n 1, 1, 0, 0, 0, 0), 7, 1), ((264, .aload_n 0, 1, 0, 0, 0, 0), 5, 0), ((265, .ldc2_w 494, 3, 1652126821, 0, 0, 187), 58, 0), ((268, .lconst 0, 1, 0, 0, 0, 0), 15, 0), ((269, .iconst 1, 1, 1, 0, 0, 0), 12, 0), ((270, .invokevirtual 354, 3, 4, 4, 0, 119), 56, 0)],
  [((273, .istore_n 1, 1, 0, 0, 0, 0), 7, 1), ((274, .aload_n 0, 1, 0, 0, 0, 0), 5, 0), ((275, .ldc2_w 496, 3, 1667785074, 0, 0, 188), 58, 0), ((278, .lconst 0, 1, 0, 0, 0, 0), 15, 0), ((279, .iconst 1, 1, 1, 0, 0, 0), 12, 0), ((280, .invokevirtual 354, 3, 4, 4, 0, 119), 56, 0), ((283, .istore_n 1, 1, 0, 0, 0, 0), 7, 1), ((284, .aload_n 0, 1, 0, 0, 0, 0), 5, 0), ((285, .ldc2_w 498, 3, 7497072, 0, 0, 189), 58, 0)],
  [((288, .lconst 0, 1, 0, 0, 0, 0), 15, 0), ((289, .iconst 1, 1, 1, 0, 0, 0), 12, 0), ((290, .invokevirtual 354, 3, 4, 4, 0, 119), 56, 0), ((293, .istore_n 1, 1, 0, 0, 0, 0), 7, 1), ((294, .aload_n 0, 1, 0, 0, 0, 0), 5, 0), ((295, .ldc2_w 500, 3, 26479, 0, 0, 190), 58, 0), ((298, .lconst 0, 1, 0, 0, 0, 0), 15, 0), ((299, .iconst 1, 1, 1, 0, 0, 0), 12, 0), ((300, .invokevirtual 354, 3, 4, 4, 0, 119), 56, 0), ((303, .istore_n 1, 1, 0, 0, 0, 0), 7, 1)],
  [((304, .aload_n 0, 1, 0, 0, 0, 0), 5, 0), ((305, .ldc2_w 502, 3, 1937010544, 0, 0, 191), 58, 0), ((308, .lconst 0, 1, 0, 0, 0, 0), 15, 0), ((309, .iconst 1, 1, 1, 0, 0, 0), 12, 0), ((310, .invokevirtual 354, 3, 4, 4, 0, 119), 56, 0), ((313, .istore_n 1, 1, 0, 0, 0, 0), 7, 1), ((314, .aload_n 0, 1, 0, 0, 0, 0), 5, 0), ((315, .ldc2_w 504, 3, 495873782885, 0, 0, 192), 58, 0), ((318, .lconst 0, 1, 0, 0, 0, 0), 15, 0), ((319, .iconst 1, 1, 1, 0, 0, 0), 12, 0)],
  [((320, .invokevirtual 354, 3, 4, 4, 0, 119), 56, 0), ((323, .istore_n 1, 1, 0, 0, 0, 0), 7, 1), ((324, .return_, 1, 0, 0, 0, 0), 1000, 0)]])
def mo_mX12_hidden : ev_MeK := (mo_yX12_hidden, prog_14_method_7_code, 6, (some .int), [[((0, .aload_n 0, 1, 0, 0, 0, 0), 5, 0), ((1, .iconst 0, 1, 0, 0, 0, 0), 12, 0), ((2, .putfield 338, 3, 0, 20, 0, 193), 51, 0), ((5, .aload_n 0, 1, 0, 0, 0, 0), 5, 0), ((6, .lload_n 1, 1, 0, 0, 0, 0), 3, 1), ((7, .invokevirtual 345, 3, 5, 2, 0, 194), 56, 0), ((10, .aload_n 0, 1, 0, 0, 0, 0), 5, 0), ((11, .lload_n 3, 1, 0, 0, 0, 0), 3, 3), ((12, .invokevirtual 345, 3, 5, 2, 0, 194), 56, 0), ((15, .aload_n 0, 1, 0, 0, 0, 0), 5, 0)],
  [((16, .iload 5, 2, 0, 0, 0, 0), 0, 5), ((18, .invokevirtual 349, 3, 6, 2, 0, 195), 56, 0), ((21, .ireturn, 1, 0, 0, 0, 0), 1000, 0)]])
def mo_mX12_word : ev_MeK := (mo_yX12_word, prog_14_method_6_code, 5, none, [[((0, .bipush 56, 2, 56, 0, 0, 0), 13, 0), ((2, .istore_n 3, 1, 0, 0, 0, 0), 7, 3), ((3, .iload_n 3, 1, 0, 0, 0, 0), 1, 3), ((4, .ifCond .lt 46, 3, 50, 0, 0, 0), 40, 0), ((7, .lload_n 1, 1, 0, 0, 0, 0), 3, 1), ((8, .iload_n 3, 1, 0, 0, 0, 0), 1, 3), ((9, .lushr, 1, 0, 0, 0, 0), 34, 0), ((10, .l2i, 1, 0, 0, 0, 0), 33, 0), ((11, .sipush 255, 3, 255, 0, 0, 0), 14, 0), ((14, .iand, 1, 0, 0, 0, 0), 19, 0), ((15, .istore 4, 2, 0, 0, 0, 0), 6, 4)],
  [((17, .iload 4, 2, 0, 0, 0, 0), 0, 4), ((19, .ifCond .le 25, 3, 44, 0, 0, 0), 43, 0), ((22, .aload_n 0, 1, 0, 0, 0, 0), 5, 0), ((23, .getfield 33, 3, 0, 19, 20, 13), 50, 0), ((26, .aload_n 0, 1, 0, 0, 0, 0), 5, 0), ((27, .getfield 338, 3, 0, 20, 0, 193), 50, 0), ((30, .iload 4, 2, 0, 0, 0, 0), 0, 4)],
  [((32, .i2b, 1, 0, 0, 0, 0), 24, 0), ((33, .bastore, 1, 0, 0, 0, 0), 55, 0), ((34, .aload_n 0, 1, 0, 0, 0, 0), 5, 0), ((35, .dup, 1, 0, 0, 0, 0), 35, 0), ((36, .getfield 338, 3, 0, 20, 0, 193), 50, 0), ((39, .iconst 1, 1, 1, 0, 0, 0), 12, 0), ((40, .iadd, 1, 0, 0, 0, 0), 16, 0), ((41, .putfield 338, 3, 0, 20, 0, 193), 51, 0), ((44, .iinc 3 (-8), 3, 4294967288, 0, 0, 0), 36, 3), ((47, .goto (-44), 3, 3, 0, 0, 0), 37, 0)],
  [((50, .return_, 1, 0, 0, 0, 0), 1000, 0)]])
def mo_mX12_intern : ev_MeK := (mo_yX12_intern, prog_14_method_4_code, 6, (some .int), [[((0, .aload_n 0, 1, 0, 0, 0, 0), 5, 0), ((1, .aload_n 0, 1, 0, 0, 0, 0), 5, 0), ((2, .getfield 338, 3, 0, 20, 0, 193), 50, 0), ((5, .invokevirtual 341, 3, 7, 2, 0, 196), 56, 0), ((8, .istore_n 2, 1, 0, 0, 0, 0), 7, 2), ((9, .aload_n 0, 1, 0, 0, 0, 0), 5, 0), ((10, .getfield 30, 3, 0, 13, 20, 12), 50, 0), ((13, .iload_n 2, 1, 0, 0, 0, 0), 1, 2), ((14, .iaload, 1, 0, 0, 0, 0), 52, 0), ((15, .istore_n 3, 1, 0, 0, 0, 0), 7, 3)],
  [((16, .iload_n 3, 1, 0, 0, 0, 0), 1, 3), ((17, .ifCond .lt 115, 3, 132, 0, 0, 0), 40, 0), ((20, .aload_n 0, 1, 0, 0, 0, 0), 5, 0), ((21, .getfield 21, 3, 0, 10, 20, 9), 50, 0), ((24, .iload_n 3, 1, 0, 0, 0, 0), 1, 3), ((25, .iaload, 1, 0, 0, 0, 0), 52, 0), ((26, .aload_n 0, 1, 0, 0, 0, 0), 5, 0), ((27, .getfield 338, 3, 0, 20, 0, 193), 50, 0), ((30, .if_icmp .ne 7, 3, 37, 0, 0, 0), 45, 0)],
  [((33, .iconst 1, 1, 1, 0, 0, 0), 12, 0), ((34, .goto 4, 3, 38, 0, 0, 0), 37, 0), ((37, .iconst 0, 1, 0, 0, 0, 0), 12, 0), ((38, .istore 4, 2, 0, 0, 0, 0), 6, 4), ((40, .iconst 0, 1, 0, 0, 0, 0), 12, 0), ((41, .istore 5, 2, 0, 0, 0, 0), 6, 5), ((43, .iload 5, 2, 0, 0, 0, 0), 0, 5), ((45, .aload_n 0, 1, 0, 0, 0, 0), 5, 0), ((46, .getfield 338, 3, 0, 20, 0, 193), 50, 0)],
  [((49, .if_icmp .ge 45, 3, 94, 0, 0, 0), 47, 0), ((52, .iload 4, 2, 0, 0, 0, 0), 0, 4), ((54, .ifCond .eq 40, 3, 94, 0, 0, 0), 38, 0), ((57, .aload_n 0, 1, 0, 0, 0, 0), 5, 0), ((58, .getfield 14, 3, 0, 7, 20, 7), 50, 0), ((61, .aload_n 0, 1, 0, 0, 0, 0), 5, 0), ((62, .getfield 18, 3, 0, 9, 20, 8), 50, 0)],
  [((65, .iload_n 3, 1, 0, 0, 0, 0), 1, 3), ((66, .iaload, 1, 0, 0, 0, 0), 52, 0), ((67, .iload 5, 2, 0, 0, 0, 0), 0, 5), ((69, .iadd, 1, 0, 0, 0, 0), 16, 0), ((70, .baload, 1, 0, 0, 0, 0), 54, 0), ((71, .aload_n 0, 1, 0, 0, 0, 0), 5, 0), ((72, .getfield 33, 3, 0, 19, 20, 13), 50, 0), ((75, .iload 5, 2, 0, 0, 0, 0), 0, 5), ((77, .baload, 1, 0, 0, 0, 0), 54, 0), ((78, .if_icmp .ne 7, 3, 85, 0, 0, 0), 45, 0)],
  [((81, .iconst 1, 1, 1, 0, 0, 0), 12, 0), ((82, .goto 4, 3, 86, 0, 0, 0), 37, 0), ((85, .iconst 0, 1, 0, 0, 0, 0), 12, 0), ((86, .istore 4, 2, 0, 0, 0, 0), 6, 4), ((88, .iinc 5 1, 3, 1, 0, 0, 0), 36, 5), ((91, .goto (-48), 3, 43, 0, 0, 0), 37, 0), ((94, .iload 4, 2, 0, 0, 0, 0), 0, 4)],
  [((96, .ifCond .eq 26, 3, 122, 0, 0, 0), 38, 0), ((99, .aload_n 0, 1, 0, 0, 0, 0), 5, 0), ((100, .getfield 24, 3, 0, 11, 20, 10), 50, 0), ((103, .iload_n 3, 1, 0, 0, 0, 0), 1, 3), ((104, .iload_n 1, 1, 0, 0, 0, 0), 1, 1), ((105, .iconst 1, 1, 1, 0, 0, 0), 12, 0), ((106, .if_icmp .ne 7, 3, 113, 0, 0, 0), 45, 0), ((109, .iconst 1, 1, 1, 0, 0, 0), 12, 0), ((110, .goto 9, 3, 119, 0, 0, 0), 37, 0)],
  [((113, .aload_n 0, 1, 0, 0, 0, 0), 5, 0), ((114, .getfield 24, 3, 0, 11, 20, 10), 50, 0), ((117, .iload_n 3, 1, 0, 0, 0, 0), 1, 3), ((118, .iaload, 1, 0, 0, 0, 0), 52, 0), ((119, .iastore, 1, 0, 0, 0, 0), 53, 0), ((120, .iload_n 3, 1, 0, 0, 0, 0), 1, 3), ((121, .ireturn, 1, 0, 0, 0, 0), 1000, 0), ((122, .aload_n 0, 1, 0, 0, 0, 0), 5, 0), ((123, .getfield 27, 3, 0, 12, 20, 11), 50, 0), ((126, .iload_n 3, 1, 0, 0, 0, 0), 1, 3), ((127, .iaload, 1, 0, 0, 0, 0), 52, 0)],
  [((128, .istore_n 3, 1, 0, 0, 0, 0), 7, 3), ((129, .goto (-113), 3, 16, 0, 0, 0), 37, 0), ((132, .aload_n 0, 1, 0, 0, 0, 0), 5, 0), ((133, .getfield 322, 3, 0, 14, 0, 114), 50, 0), ((136, .istore_n 3, 1, 0, 0, 0, 0), 7, 3), ((137, .aload_n 0, 1, 0, 0, 0, 0), 5, 0), ((138, .dup, 1, 0, 0, 0, 0), 35, 0), ((139, .getfield 322, 3, 0, 14, 0, 114), 50, 0), ((142, .iconst 1, 1, 1, 0, 0, 0), 12, 0), ((143, .iadd, 1, 0, 0, 0, 0), 16, 0)],
  [((144, .putfield 322, 3, 0, 14, 0, 114), 51, 0), ((147, .aload_n 0, 1, 0, 0, 0, 0), 5, 0), ((148, .getfield 18, 3, 0, 9, 20, 8), 50, 0), ((151, .iload_n 3, 1, 0, 0, 0, 0), 1, 3), ((152, .aload_n 0, 1, 0, 0, 0, 0), 5, 0), ((153, .getfield 329, 3, 0, 8, 0, 116), 50, 0), ((156, .iastore, 1, 0, 0, 0, 0), 53, 0), ((157, .aload_n 0, 1, 0, 0, 0, 0), 5, 0), ((158, .getfield 21, 3, 0, 10, 20, 9), 50, 0)],
  [((161, .iload_n 3, 1, 0, 0, 0, 0), 1, 3), ((162, .aload_n 0, 1, 0, 0, 0, 0), 5, 0), ((163, .getfield 338, 3, 0, 20, 0, 193), 50, 0), ((166, .iastore, 1, 0, 0, 0, 0), 53, 0), ((167, .aload_n 0, 1, 0, 0, 0, 0), 5, 0), ((168, .getfield 24, 3, 0, 11, 20, 10), 50, 0), ((171, .iload_n 3, 1, 0, 0, 0, 0), 1, 3), ((172, .iload_n 1, 1, 0, 0, 0, 0), 1, 1), ((173, .iastore, 1, 0, 0, 0, 0), 53, 0), ((174, .aload_n 0, 1, 0, 0, 0, 0), 5, 0), ((175, .getfield 27, 3, 0, 12, 20, 11), 50, 0)],
  [((178, .iload_n 3, 1, 0, 0, 0, 0), 1, 3), ((179, .aload_n 0, 1, 0, 0, 0, 0), 5, 0), ((180, .getfield 30, 3, 0, 13, 20, 12), 50, 0), ((183, .iload_n 2, 1, 0, 0, 0, 0), 1, 2), ((184, .iaload, 1, 0, 0, 0, 0), 52, 0), ((185, .iastore, 1, 0, 0, 0, 0), 53, 0), ((186, .aload_n 0, 1, 0, 0, 0, 0), 5, 0), ((187, .getfield 30, 3, 0, 13, 20, 12), 50, 0), ((190, .iload_n 2, 1, 0, 0, 0, 0), 1, 2), ((191, .iload_n 3, 1, 0, 0, 0, 0), 1, 3)],
  [((192, .iastore, 1, 0, 0, 0, 0), 53, 0), ((193, .iconst 0, 1, 0, 0, 0, 0), 12, 0), ((194, .istore 4, 2, 0, 0, 0, 0), 6, 4), ((196, .iload 4, 2, 0, 0, 0, 0), 0, 4), ((198, .aload_n 0, 1, 0, 0, 0, 0), 5, 0), ((199, .getfield 338, 3, 0, 20, 0, 193), 50, 0), ((202, .if_icmp .ge 28, 3, 230, 0, 0, 0), 47, 0), ((205, .aload_n 0, 1, 0, 0, 0, 0), 5, 0), ((206, .getfield 14, 3, 0, 7, 20, 7), 50, 0)],
  [((209, .aload_n 0, 1, 0, 0, 0, 0), 5, 0), ((210, .getfield 329, 3, 0, 8, 0, 116), 50, 0), ((213, .iload 4, 2, 0, 0, 0, 0), 0, 4), ((215, .iadd, 1, 0, 0, 0, 0), 16, 0), ((216, .aload_n 0, 1, 0, 0, 0, 0), 5, 0), ((217, .getfield 33, 3, 0, 19, 20, 13), 50, 0), ((220, .iload 4, 2, 0, 0, 0, 0), 0, 4), ((222, .baload, 1, 0, 0, 0, 0), 54, 0), ((223, .bastore, 1, 0, 0, 0, 0), 55, 0)],
  [((224, .iinc 4 1, 3, 1, 0, 0, 0), 36, 4), ((227, .goto (-31), 3, 196, 0, 0, 0), 37, 0), ((230, .aload_n 0, 1, 0, 0, 0, 0), 5, 0), ((231, .aload_n 0, 1, 0, 0, 0, 0), 5, 0), ((232, .getfield 329, 3, 0, 8, 0, 116), 50, 0), ((235, .aload_n 0, 1, 0, 0, 0, 0), 5, 0), ((236, .getfield 338, 3, 0, 20, 0, 193), 50, 0), ((239, .iadd, 1, 0, 0, 0, 0), 16, 0)],
  [((240, .putfield 329, 3, 0, 8, 0, 116), 51, 0), ((243, .iload_n 3, 1, 0, 0, 0, 0), 1, 3), ((244, .ireturn, 1, 0, 0, 0, 0), 1000, 0)]])
def mo_mX12_hashOf : ev_MeK := (mo_yX12_hashOf, prog_14_method_3_code, 4, (some .int), [[((0, .iload_n 1, 1, 0, 0, 0, 0), 1, 1), ((1, .istore_n 2, 1, 0, 0, 0, 0), 7, 2), ((2, .iconst 0, 1, 0, 0, 0, 0), 12, 0), ((3, .istore_n 3, 1, 0, 0, 0, 0), 7, 3), ((4, .iload_n 3, 1, 0, 0, 0, 0), 1, 3), ((5, .iload_n 1, 1, 0, 0, 0, 0), 1, 1), ((6, .if_icmp .ge 21, 3, 27, 0, 0, 0), 47, 0), ((9, .bipush 31, 2, 31, 0, 0, 0), 13, 0), ((11, .iload_n 2, 1, 0, 0, 0, 0), 1, 2), ((12, .imul, 1, 0, 0, 0, 0), 18, 0), ((13, .aload_n 0, 1, 0, 0, 0, 0), 5, 0), ((14, .getfield 33, 3, 0, 19, 20, 13), 50, 0)],
  [((17, .iload_n 3, 1, 0, 0, 0, 0), 1, 3), ((18, .baload, 1, 0, 0, 0, 0), 54, 0), ((19, .iadd, 1, 0, 0, 0, 0), 16, 0), ((20, .istore_n 2, 1, 0, 0, 0, 0), 7, 2), ((21, .iinc 3 1, 3, 1, 0, 0, 0), 36, 3), ((24, .goto (-20), 3, 4, 0, 0, 0), 37, 0), ((27, .iload_n 2, 1, 0, 0, 0, 0), 1, 2), ((28, .iload_n 2, 1, 0, 0, 0, 0), 1, 2), ((29, .bipush 10, 2, 10, 0, 0, 0), 13, 0), ((31, .iushr, 1, 0, 0, 0, 0), 22, 0)],
  [((32, .ixor, 1, 0, 0, 0, 0), 21, 0), ((33, .sipush 1023, 3, 1023, 0, 0, 0), 14, 0), ((36, .iand, 1, 0, 0, 0, 0), 19, 0), ((37, .ireturn, 1, 0, 0, 0, 0), 1000, 0)]])
def mo_mX12_compile : ev_MeK := (mo_yX12_compile, prog_14_method_106_code, 2, (some .int), [[((0, .aload_n 0, 1, 0, 0, 0, 0), 5, 0), ((1, .iconst 0, 1, 0, 0, 0, 0), 12, 0), ((2, .putfield 335, 3, 0, 0, 0, 197), 51, 0), ((5, .aload_n 0, 1, 0, 0, 0, 0), 5, 0), ((6, .iconst 0, 1, 0, 0, 0, 0), 12, 0), ((7, .putfield 509, 3, 0, 3, 2, 198), 51, 0), ((10, .aload_n 0, 1, 0, 0, 0, 0), 5, 0), ((11, .aload_n 0, 1, 0, 0, 0, 0), 5, 0), ((12, .getfield 326, 3, 0, 65, 0, 115), 50, 0), ((15, .aload_n 0, 1, 0, 0, 0, 0), 5, 0)],
  [((16, .getfield 332, 3, 0, 66, 0, 117), 50, 0), ((19, .invokevirtual 910, 3, 9, 3, 0, 199), 56, 0), ((22, .iconst 0, 1, 0, 0, 0, 0), 12, 0), ((23, .istore_n 1, 1, 0, 0, 0, 0), 7, 1), ((24, .iload_n 1, 1, 0, 0, 0, 0), 1, 1), ((25, .aload_n 0, 1, 0, 0, 0, 0), 5, 0), ((26, .getfield 326, 3, 0, 65, 0, 115), 50, 0), ((29, .if_icmp .ge 44, 3, 73, 0, 0, 0), 47, 0)],
  [((32, .aload_n 0, 1, 0, 0, 0, 0), 5, 0), ((33, .getfield 24, 3, 0, 11, 20, 10), 50, 0), ((36, .iload_n 1, 1, 0, 0, 0, 0), 1, 1), ((37, .iload_n 1, 1, 0, 0, 0, 0), 1, 1), ((38, .bipush 29, 2, 29, 0, 0, 0), 13, 0), ((40, .if_icmp .eq 21, 3, 61, 0, 0, 0), 44, 0), ((43, .iload_n 1, 1, 0, 0, 0, 0), 1, 1), ((44, .bipush 31, 2, 31, 0, 0, 0), 13, 0), ((46, .if_icmp .eq 15, 3, 61, 0, 0, 0), 44, 0)],
  [((49, .iload_n 1, 1, 0, 0, 0, 0), 1, 1), ((50, .bipush 36, 2, 36, 0, 0, 0), 13, 0), ((52, .if_icmp .eq 9, 3, 61, 0, 0, 0), 44, 0), ((55, .iload_n 1, 1, 0, 0, 0, 0), 1, 1), ((56, .bipush 37, 2, 37, 0, 0, 0), 13, 0), ((58, .if_icmp .lt 7, 3, 65, 0, 0, 0), 46, 0), ((61, .iconst 1, 1, 1, 0, 0, 0), 12, 0), ((62, .goto 4, 3, 66, 0, 0, 0), 37, 0)],
  [((65, .iconst 0, 1, 0, 0, 0, 0), 12, 0), ((66, .iastore, 1, 0, 0, 0, 0), 53, 0), ((67, .iinc 1 1, 3, 1, 0, 0, 0), 36, 1), ((70, .goto (-46), 3, 24, 0, 0, 0), 37, 0), ((73, .aload_n 0, 1, 0, 0, 0, 0), 5, 0), ((74, .iconst 0, 1, 0, 0, 0, 0), 12, 0), ((75, .putfield 618, 3, 0, 4, 0, 200), 51, 0), ((78, .aload_n 0, 1, 0, 0, 0, 0), 5, 0), ((79, .invokevirtual 913, 3, 10, 1, 0, 201), 56, 0)],
  [((82, .aload_n 0, 1, 0, 0, 0, 0), 5, 0), ((83, .invokevirtual 916, 3, 13, 1, 0, 202), 56, 0), ((86, .ifCond .ne 21, 3, 107, 0, 0, 0), 39, 0), ((89, .aload_n 0, 1, 0, 0, 0, 0), 5, 0), ((90, .aload_n 0, 1, 0, 0, 0, 0), 5, 0), ((91, .aload_n 0, 1, 0, 0, 0, 0), 5, 0), ((92, .getfield 621, 3, 0, 5, 0, 203), 50, 0)],
  [((98, .putfield 919, 3, 0, 6, 0, 204), 51, 0), ((101, .aload_n 0, 1, 0, 0, 0, 0), 5, 0), ((102, .getfield 618, 3, 0, 4, 0, 200), 50, 0), ((105, .ineg, 1, 0, 0, 0, 0), 23, 0), ((106, .ireturn, 1, 0, 0, 0, 0), 1000, 0), ((107, .aload_n 0, 1, 0, 0, 0, 0), 5, 0), ((108, .aload_n 0, 1, 0, 0, 0, 0), 5, 0), ((109, .getfield 322, 3, 0, 14, 0, 114), 50, 0)],
  [((112, .putfield 922, 3, 0, 15, 0, 205), 51, 0), ((115, .aload_n 0, 1, 0, 0, 0, 0), 5, 0), ((116, .aload_n 0, 1, 0, 0, 0, 0), 5, 0), ((117, .getfield 329, 3, 0, 8, 0, 116), 50, 0), ((120, .putfield 925, 3, 0, 16, 0, 206), 51, 0), ((123, .aload_n 0, 1, 0, 0, 0, 0), 5, 0), ((124, .iconst 1, 1, 1, 0, 0, 0), 12, 0), ((125, .putfield 509, 3, 0, 3, 2, 198), 51, 0)],
  [((128, .aload_n 0, 1, 0, 0, 0, 0), 5, 0), ((129, .invokevirtual 928, 3, 22, 1, 0, 207), 56, 0), ((132, .aload_n 0, 1, 0, 0, 0, 0), 5, 0), ((133, .getfield 784, 3, 0, 34, 0, 208), 50, 0), ((136, .ireturn, 1, 0, 0, 0, 0), 1000, 0)]])
def mo_mX12_forgetFrom : ev_MeK := (mo_yX12_forgetFrom, prog_14_method_5_code, 4, none, [[((0, .aload_n 0, 1, 0, 0, 0, 0), 5, 0), ((1, .getfield 322, 3, 0, 14, 0, 114), 50, 0), ((4, .iload_n 1, 1, 0, 0, 0, 0), 1, 1), ((5, .if_icmp .le 66, 3, 71, 0, 0, 0), 49, 0), ((8, .aload_n 0, 1, 0, 0, 0, 0), 5, 0), ((9, .dup, 1, 0, 0, 0, 0), 35, 0), ((10, .getfield 322, 3, 0, 14, 0, 114), 50, 0), ((13, .iconst 1, 1, 1, 0, 0, 0), 12, 0), ((14, .isub, 1, 0, 0, 0, 0), 17, 0), ((15, .putfield 322, 3, 0, 14, 0, 114), 51, 0)],
  [((18, .iconst 0, 1, 0, 0, 0, 0), 12, 0), ((19, .istore_n 3, 1, 0, 0, 0, 0), 7, 3), ((20, .iload_n 3, 1, 0, 0, 0, 0), 1, 3), ((21, .sipush 1024, 3, 1024, 0, 0, 0), 14, 0), ((24, .if_icmp .ge 22, 3, 46, 0, 0, 0), 47, 0), ((27, .aload_n 0, 1, 0, 0, 0, 0), 5, 0), ((28, .getfield 30, 3, 0, 13, 20, 12), 50, 0), ((31, .iload_n 3, 1, 0, 0, 0, 0), 1, 3)],
  [((32, .iaload, 1, 0, 0, 0, 0), 52, 0), ((33, .aload_n 0, 1, 0, 0, 0, 0), 5, 0), ((34, .getfield 322, 3, 0, 14, 0, 114), 50, 0), ((37, .if_icmp .eq 9, 3, 46, 0, 0, 0), 44, 0), ((40, .iinc 3 1, 3, 1, 0, 0, 0), 36, 3), ((43, .goto (-23), 3, 20, 0, 0, 0), 37, 0), ((46, .iload_n 3, 1, 0, 0, 0, 0), 1, 3), ((47, .sipush 1024, 3, 1024, 0, 0, 0), 14, 0)],
  [((50, .if_icmp .ge 18, 3, 68, 0, 0, 0), 47, 0), ((53, .aload_n 0, 1, 0, 0, 0, 0), 5, 0), ((54, .getfield 30, 3, 0, 13, 20, 12), 50, 0), ((57, .iload_n 3, 1, 0, 0, 0, 0), 1, 3), ((58, .aload_n 0, 1, 0, 0, 0, 0), 5, 0), ((59, .getfield 27, 3, 0, 12, 20, 11), 50, 0), ((62, .aload_n 0, 1, 0, 0, 0, 0), 5, 0), ((63, .getfield 322, 3, 0, 14, 0, 114), 50, 0)],
  [((66, .iaload, 1, 0, 0, 0, 0), 52, 0), ((67, .iastore, 1, 0, 0, 0, 0), 53, 0), ((68, .goto (-68), 3, 0, 0, 0, 0), 37, 0), ((71, .aload_n 0, 1, 0, 0, 0, 0), 5, 0), ((72, .iload_n 2, 1, 0, 0, 0, 0), 1, 2), ((73, .putfield 329, 3, 0, 8, 0, 116), 51, 0), ((76, .return_, 1, 0, 0, 0, 0), 1000, 0)]])
def mo_mX12_readTokens : ev_MeK := (mo_yX12_readTokens, prog_14_method_28_code, 4, none, [[((0, .aload_n 0, 1, 0, 0, 0, 0), 5, 0), ((1, .iconst 0, 1, 0, 0, 0, 0), 12, 0), ((2, .putfield 599, 3, 0, 24, 0, 209), 51, 0), ((5, .aload_n 0, 1, 0, 0, 0, 0), 5, 0), ((6, .iconst 0, 1, 0, 0, 0, 0), 12, 0), ((7, .invokevirtual 602, 3, 11, 2, 0, 210), 56, 0), ((10, .istore_n 1, 1, 0, 0, 0, 0), 7, 1), ((11, .iconst 1, 1, 1, 0, 0, 0), 12, 0), ((12, .istore_n 2, 1, 0, 0, 0, 0), 7, 2), ((13, .iload_n 2, 1, 0, 0, 0, 0), 1, 2), ((14, .ifCond .eq 177, 3, 191, 0, 0, 0), 38, 0)],
  [((17, .aload_n 0, 1, 0, 0, 0, 0), 5, 0), ((18, .iload_n 1, 1, 0, 0, 0, 0), 1, 1), ((19, .invokevirtual 517, 3, 12, 2, 0, 211), 56, 0), ((22, .istore_n 3, 1, 0, 0, 0, 0), 7, 3), ((23, .iload_n 3, 1, 0, 0, 0, 0), 1, 3), ((24, .ifCond .ge 12, 3, 36, 0, 0, 0), 41, 0), ((27, .aload_n 0, 1, 0, 0, 0, 0), 5, 0), ((28, .bipush 6, 2, 6, 0, 0, 0), 13, 0), ((30, .putfield 572, 3, 0, 67, 0, 212), 51, 0)],
  [((33, .goto 58, 3, 91, 0, 0, 0), 37, 0), ((36, .iload_n 3, 1, 0, 0, 0, 0), 1, 3), ((40, .ifCond .eq 11, 3, 51, 0, 0, 0), 38, 0), ((43, .aload_n 0, 1, 0, 0, 0, 0), 5, 0), ((44, .iload_n 1, 1, 0, 0, 0, 0), 1, 1)],
  [((48, .goto 43, 3, 91, 0, 0, 0), 37, 0), ((51, .iload_n 3, 1, 0, 0, 0, 0), 1, 3), ((55, .ifCond .eq 11, 3, 66, 0, 0, 0), 38, 0), ((58, .aload_n 0, 1, 0, 0, 0, 0), 5, 0), ((59, .iload_n 1, 1, 0, 0, 0, 0), 1, 1), ((63, .goto 28, 3, 91, 0, 0, 0), 37, 0)],
  [((66, .iload_n 3, 1, 0, 0, 0, 0), 1, 3), ((67, .bipush 34, 2, 34, 0, 0, 0), 13, 0), ((69, .if_icmp .eq 9, 3, 78, 0, 0, 0), 44, 0), ((72, .iload_n 3, 1, 0, 0, 0, 0), 1, 3), ((73, .bipush 39, 2, 39, 0, 0, 0), 13, 0), ((75, .if_icmp .ne 11, 3, 86, 0, 0, 0), 45, 0), ((78, .aload_n 0, 1, 0, 0, 0, 0), 5, 0), ((79, .iload_n 1, 1, 0, 0, 0, 0), 1, 1)],
  [((83, .goto 8, 3, 91, 0, 0, 0), 37, 0), ((86, .aload_n 0, 1, 0, 0, 0, 0), 5, 0), ((87, .iload_n 1, 1, 0, 0, 0, 0), 1, 1), ((91, .aload_n 0, 1, 0, 0, 0, 0), 5, 0), ((92, .getfield 36, 3, 0, 21, 20, 14), 50, 0), ((95, .aload_n 0, 1, 0, 0, 0, 0), 5, 0)],
  [((96, .getfield 599, 3, 0, 24, 0, 209), 50, 0), ((99, .aload_n 0, 1, 0, 0, 0, 0), 5, 0), ((100, .getfield 572, 3, 0, 67, 0, 212), 50, 0), ((103, .iastore, 1, 0, 0, 0, 0), 53, 0), ((104, .aload_n 0, 1, 0, 0, 0, 0), 5, 0), ((105, .getfield 39, 3, 0, 22, 20, 15), 50, 0), ((108, .aload_n 0, 1, 0, 0, 0, 0), 5, 0), ((109, .getfield 599, 3, 0, 24, 0, 209), 50, 0)],
  [((112, .iload_n 1, 1, 0, 0, 0, 0), 1, 1), ((113, .iastore, 1, 0, 0, 0, 0), 53, 0), ((114, .aload_n 0, 1, 0, 0, 0, 0), 5, 0), ((115, .getfield 42, 3, 0, 23, 20, 17), 50, 0), ((118, .aload_n 0, 1, 0, 0, 0, 0), 5, 0), ((119, .getfield 599, 3, 0, 24, 0, 209), 50, 0), ((122, .aload_n 0, 1, 0, 0, 0, 0), 5, 0), ((123, .getfield 575, 3, 0, 68, 10, 213), 50, 0), ((126, .lastore, 1, 0, 0, 0, 0), 58, 0), ((127, .aload_n 0, 1, 0, 0, 0, 0), 5, 0)],
  [((128, .dup, 1, 0, 0, 0, 0), 35, 0), ((129, .getfield 599, 3, 0, 24, 0, 209), 50, 0), ((132, .iconst 1, 1, 1, 0, 0, 0), 12, 0), ((133, .iadd, 1, 0, 0, 0, 0), 16, 0), ((134, .putfield 599, 3, 0, 24, 0, 209), 51, 0), ((137, .aload_n 0, 1, 0, 0, 0, 0), 5, 0), ((138, .getfield 572, 3, 0, 67, 0, 212), 50, 0), ((141, .bipush 6, 2, 6, 0, 0, 0), 13, 0), ((143, .if_icmp .eq 26, 3, 169, 0, 0, 0), 44, 0)],
  [((146, .aload_n 0, 1, 0, 0, 0, 0), 5, 0), ((147, .getfield 572, 3, 0, 67, 0, 212), 50, 0), ((150, .bipush 7, 2, 7, 0, 0, 0), 13, 0), ((152, .if_icmp .eq 17, 3, 169, 0, 0, 0), 44, 0), ((155, .aload_n 0, 1, 0, 0, 0, 0), 5, 0), ((156, .getfield 599, 3, 0, 24, 0, 209), 50, 0), ((159, .sipush 1500, 3, 1500, 0, 0, 0), 14, 0)],
  [((162, .if_icmp .gt 7, 3, 169, 0, 0, 0), 48, 0), ((165, .iconst 1, 1, 1, 0, 0, 0), 12, 0), ((166, .goto 4, 3, 170, 0, 0, 0), 37, 0), ((169, .iconst 0, 1, 0, 0, 0, 0), 12, 0), ((170, .istore_n 2, 1, 0, 0, 0, 0), 7, 2), ((171, .iload_n 2, 1, 0, 0, 0, 0), 1, 2), ((172, .ifCond .eq 14, 3, 186, 0, 0, 0), 38, 0), ((175, .aload_n 0, 1, 0, 0, 0, 0), 5, 0)],
  [((176, .aload_n 0, 1, 0, 0, 0, 0), 5, 0), ((177, .getfield 565, 3, 0, 69, 0, 214), 50, 0), ((180, .invokevirtual 602, 3, 11, 2, 0, 210), 56, 0), ((183, .goto 4, 3, 187, 0, 0, 0), 37, 0), ((186, .iload_n 1, 1, 0, 0, 0, 0), 1, 1), ((187, .istore_n 1, 1, 0, 0, 0, 0), 7, 1), ((188, .goto (-175), 3, 13, 0, 0, 0), 37, 0), ((191, .return_, 1, 0, 0, 0, 0), 1000, 0)]])
def mo_mX12_skip : ev_MeK := (mo_yX12_skip, prog_14_method_18_code, 5, (some .int), [[((0, .iload_n 1, 1, 0, 0, 0, 0), 1, 1), ((1, .istore_n 2, 1, 0, 0, 0, 0), 7, 2), ((2, .iconst 1, 1, 1, 0, 0, 0), 12, 0), ((3, .istore_n 3, 1, 0, 0, 0, 0), 7, 3), ((4, .iload_n 3, 1, 0, 0, 0, 0), 1, 3), ((5, .ifCond .eq 100, 3, 105, 0, 0, 0), 38, 0), ((8, .aload_n 0, 1, 0, 0, 0, 0), 5, 0), ((9, .iload_n 2, 1, 0, 0, 0, 0), 1, 2), ((10, .invokevirtual 517, 3, 12, 2, 0, 211), 56, 0), ((13, .istore 4, 2, 0, 0, 0, 0), 6, 4), ((15, .iload 4, 2, 0, 0, 0, 0), 0, 4)],
  [((17, .bipush 32, 2, 32, 0, 0, 0), 13, 0), ((19, .if_icmp .eq 24, 3, 43, 0, 0, 0), 44, 0), ((22, .iload 4, 2, 0, 0, 0, 0), 0, 4), ((24, .bipush 9, 2, 9, 0, 0, 0), 13, 0), ((26, .if_icmp .eq 17, 3, 43, 0, 0, 0), 44, 0), ((29, .iload 4, 2, 0, 0, 0, 0), 0, 4), ((31, .bipush 13, 2, 13, 0, 0, 0), 13, 0)],
  [((33, .if_icmp .eq 10, 3, 43, 0, 0, 0), 44, 0), ((36, .iload 4, 2, 0, 0, 0, 0), 0, 4), ((38, .bipush 10, 2, 10, 0, 0, 0), 13, 0), ((40, .if_icmp .ne 7, 3, 47, 0, 0, 0), 45, 0), ((43, .iconst 1, 1, 1, 0, 0, 0), 12, 0), ((44, .goto 4, 3, 48, 0, 0, 0), 37, 0), ((47, .iconst 0, 1, 0, 0, 0, 0), 12, 0)],
  [((48, .istore_n 3, 1, 0, 0, 0, 0), 7, 3), ((49, .iload 4, 2, 0, 0, 0, 0), 0, 4), ((51, .bipush 45, 2, 45, 0, 0, 0), 13, 0), ((53, .if_icmp .ne 42, 3, 95, 0, 0, 0), 45, 0), ((56, .aload_n 0, 1, 0, 0, 0, 0), 5, 0), ((57, .iload_n 2, 1, 0, 0, 0, 0), 1, 2), ((58, .iconst 1, 1, 1, 0, 0, 0), 12, 0), ((59, .iadd, 1, 0, 0, 0, 0), 16, 0), ((60, .invokevirtual 517, 3, 12, 2, 0, 211), 56, 0), ((63, .bipush 45, 2, 45, 0, 0, 0), 13, 0)],
  [((65, .if_icmp .ne 30, 3, 95, 0, 0, 0), 45, 0), ((68, .iconst 1, 1, 1, 0, 0, 0), 12, 0), ((69, .istore_n 3, 1, 0, 0, 0, 0), 7, 3), ((70, .iload_n 2, 1, 0, 0, 0, 0), 1, 2), ((71, .aload_n 0, 1, 0, 0, 0, 0), 5, 0), ((72, .getfield 506, 3, 0, 2, 0, 215), 50, 0), ((75, .if_icmp .ge 27, 3, 102, 0, 0, 0), 47, 0), ((78, .aload_n 0, 1, 0, 0, 0, 0), 5, 0), ((79, .getfield 7, 3, 0, 1, 20, 4), 50, 0)],
  [((82, .iload_n 2, 1, 0, 0, 0, 0), 1, 2), ((83, .iaload, 1, 0, 0, 0, 0), 52, 0), ((84, .bipush 10, 2, 10, 0, 0, 0), 13, 0), ((86, .if_icmp .eq 16, 3, 102, 0, 0, 0), 44, 0), ((89, .iinc 2 1, 3, 1, 0, 0, 0), 36, 2), ((92, .goto (-22), 3, 70, 0, 0, 0), 37, 0), ((95, .iload_n 3, 1, 0, 0, 0, 0), 1, 3)],
  [((96, .ifCond .eq 6, 3, 102, 0, 0, 0), 38, 0), ((99, .iinc 2 1, 3, 1, 0, 0, 0), 36, 2), ((102, .goto (-98), 3, 4, 0, 0, 0), 37, 0), ((105, .iload_n 2, 1, 0, 0, 0, 0), 1, 2), ((106, .ireturn, 1, 0, 0, 0, 0), 1000, 0)]])
def mo_mX12_at : ev_MeK := (mo_yX12_at, prog_14_method_13_code, 2, (some .int), [[((0, .iload_n 1, 1, 0, 0, 0, 0), 1, 1), ((1, .aload_n 0, 1, 0, 0, 0, 0), 5, 0), ((2, .getfield 506, 3, 0, 2, 0, 215), 50, 0), ((5, .if_icmp .ge 12, 3, 17, 0, 0, 0), 47, 0), ((8, .aload_n 0, 1, 0, 0, 0, 0), 5, 0), ((9, .getfield 7, 3, 0, 1, 20, 4), 50, 0), ((12, .iload_n 1, 1, 0, 0, 0, 0), 1, 1), ((13, .iaload, 1, 0, 0, 0, 0), 52, 0), ((14, .goto 4, 3, 18, 0, 0, 0), 37, 0)],
  [((17, .iconst (-1), 1, 4294967295, 0, 0, 0), 12, 0), ((18, .ireturn, 1, 0, 0, 0, 0), 1000, 0)]])
def mo_mX12_readText : ev_MeK := (mo_yX12_readText, prog_14_method_105_code, 3, (some .boolean), [[((0, .aload_n 0, 1, 0, 0, 0, 0), 5, 0), ((1, .iconst 0, 1, 0, 0, 0, 0), 12, 0), ((2, .putfield 624, 3, 0, 25, 0, 216), 51, 0), ((5, .aload_n 0, 1, 0, 0, 0, 0), 5, 0), ((6, .iconst 0, 1, 0, 0, 0, 0), 12, 0), ((7, .putfield 654, 3, 0, 46, 0, 217), 51, 0), ((10, .aload_n 0, 1, 0, 0, 0, 0), 5, 0), ((11, .iconst 0, 1, 0, 0, 0, 0), 12, 0), ((12, .putfield 657, 3, 0, 47, 0, 218), 51, 0), ((15, .aload_n 0, 1, 0, 0, 0, 0), 5, 0)],
  [((16, .iconst 0, 1, 0, 0, 0, 0), 12, 0), ((17, .putfield 666, 3, 0, 50, 0, 219), 51, 0), ((20, .aload_n 0, 1, 0, 0, 0, 0), 5, 0), ((21, .iconst 0, 1, 0, 0, 0, 0), 12, 0), ((22, .putfield 660, 3, 0, 53, 0, 220), 51, 0), ((25, .aload_n 0, 1, 0, 0, 0, 0), 5, 0), ((26, .getfield 104, 3, 0, 51, 20, 38), 50, 0), ((29, .iconst 0, 1, 0, 0, 0, 0), 12, 0), ((30, .iconst 0, 1, 0, 0, 0, 0), 12, 0), ((31, .iastore, 1, 0, 0, 0, 0), 53, 0)],
  [((32, .aload_n 0, 1, 0, 0, 0, 0), 5, 0), ((33, .getfield 107, 3, 0, 52, 20, 39), 50, 0), ((36, .iconst 0, 1, 0, 0, 0, 0), 12, 0), ((37, .iconst 0, 1, 0, 0, 0, 0), 12, 0), ((38, .iastore, 1, 0, 0, 0, 0), 53, 0), ((39, .aload_n 0, 1, 0, 0, 0, 0), 5, 0), ((40, .iconst 0, 1, 0, 0, 0, 0), 12, 0), ((41, .putfield 726, 3, 0, 56, 0, 221), 51, 0), ((44, .aload_n 0, 1, 0, 0, 0, 0), 5, 0), ((45, .iconst 0, 1, 0, 0, 0, 0), 12, 0), ((46, .putfield 705, 3, 0, 60, 0, 222), 51, 0)],
  [((49, .aload_n 0, 1, 0, 0, 0, 0), 5, 0), ((50, .iconst 0, 1, 0, 0, 0, 0), 12, 0), ((51, .putfield 651, 3, 0, 41, 0, 223), 51, 0), ((54, .aload_n 0, 1, 0, 0, 0, 0), 5, 0), ((55, .iconst 0, 1, 0, 0, 0, 0), 12, 0), ((56, .putfield 758, 3, 0, 40, 0, 224), 51, 0), ((59, .aload_n 0, 1, 0, 0, 0, 0), 5, 0), ((60, .iconst 1, 1, 1, 0, 0, 0), 12, 0), ((61, .putfield 784, 3, 0, 34, 0, 208), 51, 0)],
  [((64, .aload_n 0, 1, 0, 0, 0, 0), 5, 0), ((65, .getfield 52, 3, 0, 28, 20, 20), 50, 0), ((68, .iconst 0, 1, 0, 0, 0, 0), 12, 0), ((69, .iconst 0, 1, 0, 0, 0, 0), 12, 0), ((70, .iastore, 1, 0, 0, 0, 0), 53, 0), ((71, .aload_n 0, 1, 0, 0, 0, 0), 5, 0), ((72, .getfield 55, 3, 0, 29, 20, 21), 50, 0), ((75, .iconst 0, 1, 0, 0, 0, 0), 12, 0), ((76, .iconst 0, 1, 0, 0, 0, 0), 12, 0), ((77, .iastore, 1, 0, 0, 0, 0), 53, 0), ((78, .aload_n 0, 1, 0, 0, 0, 0), 5, 0), ((79, .getfield 49, 3, 0, 27, 20, 19), 50, 0)],
  [((82, .iconst 0, 1, 0, 0, 0, 0), 12, 0), ((83, .iconst 0, 1, 0, 0, 0, 0), 12, 0), ((84, .iastore, 1, 0, 0, 0, 0), 53, 0), ((85, .aload_n 0, 1, 0, 0, 0, 0), 5, 0), ((86, .getfield 58, 3, 0, 30, 20, 23), 50, 0), ((89, .iconst 0, 1, 0, 0, 0, 0), 12, 0), ((90, .iconst 1, 1, 1, 0, 0, 0), 12, 0), ((91, .bastore, 1, 0, 0, 0, 0), 55, 0), ((92, .aload_n 0, 1, 0, 0, 0, 0), 5, 0), ((93, .getfield 62, 3, 0, 31, 20, 24), 50, 0)],
  [((96, .iconst 0, 1, 0, 0, 0, 0), 12, 0), ((97, .iconst 0, 1, 0, 0, 0, 0), 12, 0), ((98, .iastore, 1, 0, 0, 0, 0), 53, 0), ((99, .aload_n 0, 1, 0, 0, 0, 0), 5, 0), ((100, .getfield 46, 3, 0, 26, 20, 18), 50, 0), ((103, .iconst 0, 1, 0, 0, 0, 0), 12, 0), ((104, .iconst 0, 1, 0, 0, 0, 0), 12, 0), ((105, .iastore, 1, 0, 0, 0, 0), 53, 0), ((106, .aload_n 0, 1, 0, 0, 0, 0), 5, 0), ((107, .iconst 0, 1, 0, 0, 0, 0), 12, 0), ((108, .iconst 0, 1, 0, 0, 0, 0), 12, 0), ((109, .iconst 0, 1, 0, 0, 0, 0), 12, 0), ((110, .iconst 0, 1, 0, 0, 0, 0), 12, 0), ((111, .invokevirtual 682, 3, 14, 5, 0, 225), 56, 0)],
  [((114, .istore_n 1, 1, 0, 0, 0, 0), 7, 1), ((115, .aload_n 0, 1, 0, 0, 0, 0), 5, 0), ((116, .bipush 42, 2, 42, 0, 0, 0), 13, 0), ((118, .iconst 0, 1, 0, 0, 0, 0), 12, 0), ((119, .iconst 0, 1, 0, 0, 0, 0), 12, 0), ((120, .iconst 0, 1, 0, 0, 0, 0), 12, 0), ((121, .invokevirtual 686, 3, 15, 5, 0, 226), 56, 0), ((124, .aload_n 0, 1, 0, 0, 0, 0), 5, 0), ((125, .iconst 0, 1, 0, 0, 0, 0), 12, 0), ((126, .iconst 0, 1, 0, 0, 0, 0), 12, 0), ((127, .iconst 0, 1, 0, 0, 0, 0), 12, 0)],
  [((128, .iconst 0, 1, 0, 0, 0, 0), 12, 0), ((129, .invokevirtual 686, 3, 15, 5, 0, 226), 56, 0), ((132, .iconst 1, 1, 1, 0, 0, 0), 12, 0), ((133, .istore_n 2, 1, 0, 0, 0, 0), 7, 2), ((134, .aload_n 0, 1, 0, 0, 0, 0), 5, 0), ((135, .getfield 654, 3, 0, 46, 0, 217), 50, 0), ((138, .ifCond .le 76, 3, 214, 0, 0, 0), 43, 0), ((141, .iload_n 2, 1, 0, 0, 0, 0), 1, 2), ((142, .ifCond .eq 72, 3, 214, 0, 0, 0), 38, 0)],
  [((145, .aload_n 0, 1, 0, 0, 0, 0), 5, 0), ((146, .dup, 1, 0, 0, 0, 0), 35, 0), ((147, .getfield 654, 3, 0, 46, 0, 217), 50, 0), ((150, .iconst 1, 1, 1, 0, 0, 0), 12, 0), ((151, .isub, 1, 0, 0, 0, 0), 17, 0), ((152, .putfield 654, 3, 0, 46, 0, 217), 51, 0), ((155, .aload_n 0, 1, 0, 0, 0, 0), 5, 0), ((156, .aload_n 0, 1, 0, 0, 0, 0), 5, 0), ((157, .getfield 86, 3, 0, 42, 20, 32), 50, 0)],
  [((160, .aload_n 0, 1, 0, 0, 0, 0), 5, 0), ((161, .getfield 654, 3, 0, 46, 0, 217), 50, 0), ((164, .iaload, 1, 0, 0, 0, 0), 52, 0), ((165, .aload_n 0, 1, 0, 0, 0, 0), 5, 0), ((166, .getfield 89, 3, 0, 43, 20, 33), 50, 0), ((169, .aload_n 0, 1, 0, 0, 0, 0), 5, 0), ((170, .getfield 654, 3, 0, 46, 0, 217), 50, 0), ((173, .iaload, 1, 0, 0, 0, 0), 52, 0), ((174, .aload_n 0, 1, 0, 0, 0, 0), 5, 0), ((175, .getfield 92, 3, 0, 44, 20, 34), 50, 0)],
  [((178, .aload_n 0, 1, 0, 0, 0, 0), 5, 0), ((179, .getfield 654, 3, 0, 46, 0, 217), 50, 0), ((182, .iaload, 1, 0, 0, 0, 0), 52, 0), ((183, .aload_n 0, 1, 0, 0, 0, 0), 5, 0), ((184, .getfield 95, 3, 0, 45, 20, 35), 50, 0), ((187, .aload_n 0, 1, 0, 0, 0, 0), 5, 0), ((188, .getfield 654, 3, 0, 46, 0, 217), 50, 0), ((191, .iaload, 1, 0, 0, 0, 0), 52, 0)],
  [((192, .invokevirtual 907, 3, 16, 5, 0, 227), 56, 0), ((195, .ifCond .eq 14, 3, 209, 0, 0, 0), 38, 0), ((198, .aload_n 0, 1, 0, 0, 0, 0), 5, 0), ((199, .getfield 618, 3, 0, 4, 0, 200), 50, 0), ((202, .ifCond .ne 7, 3, 209, 0, 0, 0), 39, 0), ((205, .iconst 1, 1, 1, 0, 0, 0), 12, 0), ((206, .goto 4, 3, 210, 0, 0, 0), 37, 0)],
  [((209, .iconst 0, 1, 0, 0, 0, 0), 12, 0), ((210, .istore_n 2, 1, 0, 0, 0, 0), 7, 2), ((211, .goto (-77), 3, 134, 0, 0, 0), 37, 0), ((214, .aload_n 0, 1, 0, 0, 0, 0), 5, 0), ((215, .bipush 14, 2, 14, 0, 0, 0), 13, 0), ((217, .iconst 0, 1, 0, 0, 0, 0), 12, 0), ((218, .iconst 0, 1, 0, 0, 0, 0), 12, 0), ((219, .iconst 0, 1, 0, 0, 0, 0), 12, 0), ((220, .invokevirtual 682, 3, 14, 5, 0, 225), 56, 0), ((223, .istore_n 1, 1, 0, 0, 0, 0), 7, 1)],
  [((224, .aload_n 0, 1, 0, 0, 0, 0), 5, 0), ((225, .bipush 38, 2, 38, 0, 0, 0), 13, 0), ((227, .iconst 0, 1, 0, 0, 0, 0), 12, 0), ((228, .iconst 0, 1, 0, 0, 0, 0), 12, 0), ((229, .iconst 0, 1, 0, 0, 0, 0), 12, 0), ((230, .invokevirtual 682, 3, 14, 5, 0, 225), 56, 0), ((233, .istore_n 1, 1, 0, 0, 0, 0), 7, 1), ((234, .iload_n 2, 1, 0, 0, 0, 0), 1, 2), ((235, .ireturn, 1, 0, 0, 0, 0), 1000, 0)]])
def mo_mX12_emit : ev_MeK := (mo_yX12_emit, prog_14_method_38_code, 5, (some .int), [[((0, .aload_n 0, 1, 0, 0, 0, 0), 5, 0), ((1, .getfield 71, 3, 0, 35, 20, 27), 50, 0), ((4, .aload_n 0, 1, 0, 0, 0, 0), 5, 0), ((5, .getfield 651, 3, 0, 41, 0, 223), 50, 0), ((8, .iload_n 1, 1, 0, 0, 0, 0), 1, 1), ((9, .iastore, 1, 0, 0, 0, 0), 53, 0), ((10, .aload_n 0, 1, 0, 0, 0, 0), 5, 0), ((11, .getfield 74, 3, 0, 36, 20, 28), 50, 0), ((14, .aload_n 0, 1, 0, 0, 0, 0), 5, 0), ((15, .getfield 651, 3, 0, 41, 0, 223), 50, 0)],
  [((18, .iload_n 2, 1, 0, 0, 0, 0), 1, 2), ((19, .iastore, 1, 0, 0, 0, 0), 53, 0), ((20, .aload_n 0, 1, 0, 0, 0, 0), 5, 0), ((21, .getfield 77, 3, 0, 37, 20, 29), 50, 0), ((24, .aload_n 0, 1, 0, 0, 0, 0), 5, 0), ((25, .getfield 651, 3, 0, 41, 0, 223), 50, 0), ((28, .iload_n 3, 1, 0, 0, 0, 0), 1, 3), ((29, .iastore, 1, 0, 0, 0, 0), 53, 0), ((30, .aload_n 0, 1, 0, 0, 0, 0), 5, 0), ((31, .getfield 80, 3, 0, 38, 20, 30), 50, 0)],
  [((34, .aload_n 0, 1, 0, 0, 0, 0), 5, 0), ((35, .getfield 651, 3, 0, 41, 0, 223), 50, 0), ((38, .iload 4, 2, 0, 0, 0, 0), 0, 4), ((40, .iastore, 1, 0, 0, 0, 0), 53, 0), ((41, .aload_n 0, 1, 0, 0, 0, 0), 5, 0), ((42, .dup, 1, 0, 0, 0, 0), 35, 0), ((43, .getfield 651, 3, 0, 41, 0, 223), 50, 0), ((46, .iconst 1, 1, 1, 0, 0, 0), 12, 0), ((47, .iadd, 1, 0, 0, 0, 0), 16, 0)],
  [((48, .putfield 651, 3, 0, 41, 0, 223), 51, 0), ((51, .aload_n 0, 1, 0, 0, 0, 0), 5, 0), ((52, .getfield 651, 3, 0, 41, 0, 223), 50, 0), ((55, .iconst 1, 1, 1, 0, 0, 0), 12, 0), ((56, .isub, 1, 0, 0, 0, 0), 17, 0), ((57, .ireturn, 1, 0, 0, 0, 0), 1000, 0)]])
def mo_mX12_later : ev_MeK := (mo_yX12_later, prog_14_method_39_code, 5, none, [[((0, .aload_n 0, 1, 0, 0, 0, 0), 5, 0), ((1, .getfield 86, 3, 0, 42, 20, 32), 50, 0), ((4, .aload_n 0, 1, 0, 0, 0, 0), 5, 0), ((5, .getfield 654, 3, 0, 46, 0, 217), 50, 0), ((8, .iload_n 1, 1, 0, 0, 0, 0), 1, 1), ((9, .iastore, 1, 0, 0, 0, 0), 53, 0), ((10, .aload_n 0, 1, 0, 0, 0, 0), 5, 0), ((11, .getfield 89, 3, 0, 43, 20, 33), 50, 0), ((14, .aload_n 0, 1, 0, 0, 0, 0), 5, 0), ((15, .getfield 654, 3, 0, 46, 0, 217), 50, 0)],
  [((18, .iload_n 2, 1, 0, 0, 0, 0), 1, 2), ((19, .iastore, 1, 0, 0, 0, 0), 53, 0), ((20, .aload_n 0, 1, 0, 0, 0, 0), 5, 0), ((21, .getfield 92, 3, 0, 44, 20, 34), 50, 0), ((24, .aload_n 0, 1, 0, 0, 0, 0), 5, 0), ((25, .getfield 654, 3, 0, 46, 0, 217), 50, 0), ((28, .iload_n 3, 1, 0, 0, 0, 0), 1, 3), ((29, .iastore, 1, 0, 0, 0, 0), 53, 0), ((30, .aload_n 0, 1, 0, 0, 0, 0), 5, 0), ((31, .getfield 95, 3, 0, 45, 20, 35), 50, 0)],
  [((34, .aload_n 0, 1, 0, 0, 0, 0), 5, 0), ((35, .getfield 654, 3, 0, 46, 0, 217), 50, 0), ((38, .iload 4, 2, 0, 0, 0, 0), 0, 4), ((40, .iastore, 1, 0, 0, 0, 0), 53, 0), ((41, .aload_n 0, 1, 0, 0, 0, 0), 5, 0), ((42, .dup, 1, 0, 0, 0, 0), 35, 0), ((43, .getfield 654, 3, 0, 46, 0, 217), 50, 0), ((46, .iconst 1, 1, 1, 0, 0, 0), 12, 0), ((47, .iadd, 1, 0, 0, 0, 0), 16, 0)],
  [((48, .putfield 654, 3, 0, 46, 0, 217), 51, 0), ((51, .return_, 1, 0, 0, 0, 0), 1000, 0)]])
def mo_mX12_goOn : ev_MeK := (mo_yX12_goOn, prog_14_method_103_code, 5, (some .boolean), [[((0, .iload_n 1, 1, 0, 0, 0, 0), 1, 1), ((1, .tableswitch 274 0 20 #[99, 104, 116, 123, 129, 135, 142, 151, 156, 161, 166, 172, 177, 184, 190, 196, 203, 245, 254, 261, 267], 99, 0, 0, 0, 0), 58, 0)],
  [],
  [],
  [],
  [],
  [],
  [((100, .aload_n 0, 1, 0, 0, 0, 0), 5, 0), ((101, .invokevirtual 808, 3, 17, 1, 0, 228), 56, 0), ((104, .ireturn, 1, 0, 0, 0, 0), 1000, 0), ((105, .aload_n 0, 1, 0, 0, 0, 0), 5, 0), ((106, .dup, 1, 0, 0, 0, 0), 35, 0), ((107, .getfield 657, 3, 0, 47, 0, 218), 50, 0), ((110, .iconst 1, 1, 1, 0, 0, 0), 12, 0), ((111, .isub, 1, 0, 0, 0, 0), 17, 0)],
  [((112, .putfield 657, 3, 0, 47, 0, 218), 51, 0), ((115, .iconst 1, 1, 1, 0, 0, 0), 12, 0), ((116, .ireturn, 1, 0, 0, 0, 0), 1000, 0), ((117, .aload_n 0, 1, 0, 0, 0, 0), 5, 0), ((118, .iload_n 2, 1, 0, 0, 0, 0), 1, 2), ((122, .iconst 1, 1, 1, 0, 0, 0), 12, 0), ((123, .ireturn, 1, 0, 0, 0, 0), 1000, 0), ((124, .aload_n 0, 1, 0, 0, 0, 0), 5, 0), ((125, .iload_n 2, 1, 0, 0, 0, 0), 1, 2)],
  [((129, .ireturn, 1, 0, 0, 0, 0), 1000, 0), ((130, .aload_n 0, 1, 0, 0, 0, 0), 5, 0), ((131, .iload_n 2, 1, 0, 0, 0, 0), 1, 2), ((135, .ireturn, 1, 0, 0, 0, 0), 1000, 0), ((136, .aload_n 0, 1, 0, 0, 0, 0), 5, 0), ((137, .iload_n 2, 1, 0, 0, 0, 0), 1, 2), ((138, .iload_n 3, 1, 0, 0, 0, 0), 1, 3), ((142, .ireturn, 1, 0, 0, 0, 0), 1000, 0), ((143, .aload_n 0, 1, 0, 0, 0, 0), 5, 0)],
  [((144, .iload_n 2, 1, 0, 0, 0, 0), 1, 2), ((145, .iload_n 3, 1, 0, 0, 0, 0), 1, 3), ((146, .iload 4, 2, 0, 0, 0, 0), 0, 4), ((151, .ireturn, 1, 0, 0, 0, 0), 1000, 0), ((152, .aload_n 0, 1, 0, 0, 0, 0), 5, 0), ((156, .ireturn, 1, 0, 0, 0, 0), 1000, 0), ((157, .aload_n 0, 1, 0, 0, 0, 0), 5, 0)],
  [((161, .ireturn, 1, 0, 0, 0, 0), 1000, 0), ((162, .aload_n 0, 1, 0, 0, 0, 0), 5, 0), ((166, .ireturn, 1, 0, 0, 0, 0), 1000, 0), ((167, .aload_n 0, 1, 0, 0, 0, 0), 5, 0), ((168, .iload_n 2, 1, 0, 0, 0, 0), 1, 2), ((172, .ireturn, 1, 0, 0, 0, 0), 1000, 0), ((173, .aload_n 0, 1, 0, 0, 0, 0), 5, 0)],
  [((177, .ireturn, 1, 0, 0, 0, 0), 1000, 0), ((178, .aload_n 0, 1, 0, 0, 0, 0), 5, 0), ((179, .bipush 41, 2, 41, 0, 0, 0), 13, 0), ((184, .ireturn, 1, 0, 0, 0, 0), 1000, 0), ((185, .aload_n 0, 1, 0, 0, 0, 0), 5, 0), ((186, .iload_n 2, 1, 0, 0, 0, 0), 1, 2), ((190, .ireturn, 1, 0, 0, 0, 0), 1000, 0), ((191, .aload_n 0, 1, 0, 0, 0, 0), 5, 0)],
  [((192, .iload_n 2, 1, 0, 0, 0, 0), 1, 2), ((196, .ireturn, 1, 0, 0, 0, 0), 1000, 0), ((197, .aload_n 0, 1, 0, 0, 0, 0), 5, 0), ((198, .iload_n 2, 1, 0, 0, 0, 0), 1, 2), ((199, .iload_n 3, 1, 0, 0, 0, 0), 1, 3), ((203, .ireturn, 1, 0, 0, 0, 0), 1000, 0), ((204, .aload_n 0, 1, 0, 0, 0, 0), 5, 0), ((205, .bipush 17, 2, 17, 0, 0, 0), 13, 0), ((207, .iload_n 2, 1, 0, 0, 0, 0), 1, 2)],
  [((208, .iload_n 3, 1, 0, 0, 0, 0), 1, 3), ((209, .iload 4, 2, 0, 0, 0, 0), 0, 4), ((211, .invokevirtual 686, 3, 15, 5, 0, 226), 56, 0), ((214, .aload_n 0, 1, 0, 0, 0, 0), 5, 0), ((215, .iconst 3, 1, 3, 0, 0, 0), 12, 0), ((216, .iconst 0, 1, 0, 0, 0, 0), 12, 0), ((217, .iconst 0, 1, 0, 0, 0, 0), 12, 0), ((218, .iconst 0, 1, 0, 0, 0, 0), 12, 0), ((219, .invokevirtual 686, 3, 15, 5, 0, 226), 56, 0), ((222, .aload_n 0, 1, 0, 0, 0, 0), 5, 0), ((223, .bipush 93, 2, 93, 0, 0, 0), 13, 0)],
  [((228, .ifCond .eq 16, 3, 244, 0, 0, 0), 38, 0), ((231, .aload_n 0, 1, 0, 0, 0, 0), 5, 0), ((232, .bipush 61, 2, 61, 0, 0, 0), 13, 0), ((237, .ifCond .eq 7, 3, 244, 0, 0, 0), 38, 0)],
  [((240, .iconst 1, 1, 1, 0, 0, 0), 12, 0), ((241, .goto 4, 3, 245, 0, 0, 0), 37, 0), ((244, .iconst 0, 1, 0, 0, 0, 0), 12, 0), ((245, .ireturn, 1, 0, 0, 0, 0), 1000, 0), ((246, .aload_n 0, 1, 0, 0, 0, 0), 5, 0), ((247, .iload_n 2, 1, 0, 0, 0, 0), 1, 2), ((248, .iload_n 3, 1, 0, 0, 0, 0), 1, 3), ((249, .iload 4, 2, 0, 0, 0, 0), 0, 4), ((254, .ireturn, 1, 0, 0, 0, 0), 1000, 0), ((255, .aload_n 0, 1, 0, 0, 0, 0), 5, 0)],
  [((256, .iload_n 2, 1, 0, 0, 0, 0), 1, 2), ((257, .iload_n 3, 1, 0, 0, 0, 0), 1, 3), ((261, .ireturn, 1, 0, 0, 0, 0), 1000, 0), ((262, .aload_n 0, 1, 0, 0, 0, 0), 5, 0), ((263, .iload_n 2, 1, 0, 0, 0, 0), 1, 2), ((267, .ireturn, 1, 0, 0, 0, 0), 1000, 0), ((268, .aload_n 0, 1, 0, 0, 0, 0), 5, 0), ((269, .iload_n 2, 1, 0, 0, 0, 0), 1, 2), ((270, .iload_n 3, 1, 0, 0, 0, 0), 1, 3)],
  [((274, .ireturn, 1, 0, 0, 0, 0), 1000, 0), ((275, .aload_n 0, 1, 0, 0, 0, 0), 5, 0), ((276, .iload_n 1, 1, 0, 0, 0, 0), 1, 1), ((277, .iload_n 2, 1, 0, 0, 0, 0), 1, 2), ((278, .iload_n 3, 1, 0, 0, 0, 0), 1, 3), ((279, .iload 4, 2, 0, 0, 0, 0), 0, 4), ((281, .invokevirtual 859, 3, 21, 5, 0, 229), 56, 0), ((284, .ireturn, 1, 0, 0, 0, 0), 1000, 0)]])
def mo_mX12_readBlock : ev_MeK := (mo_yX12_readBlock, prog_14_method_51_code, 3, (some .boolean), [[((0, .aload_n 0, 1, 0, 0, 0, 0), 5, 0), ((1, .bipush 17, 2, 17, 0, 0, 0), 13, 0), ((3, .invokevirtual 645, 3, 18, 2, 0, 230), 56, 0), ((6, .ifCond .eq 71, 3, 77, 0, 0, 0), 38, 0), ((9, .aload_n 0, 1, 0, 0, 0, 0), 5, 0), ((13, .istore_n 1, 1, 0, 0, 0, 0), 7, 1), ((14, .aload_n 0, 1, 0, 0, 0, 0), 5, 0), ((15, .iconst 0, 1, 0, 0, 0, 0), 12, 0)],
  [((16, .iconst 0, 1, 0, 0, 0, 0), 12, 0), ((17, .iconst 0, 1, 0, 0, 0, 0), 12, 0), ((18, .iconst 0, 1, 0, 0, 0, 0), 12, 0), ((19, .invokevirtual 682, 3, 14, 5, 0, 225), 56, 0), ((22, .istore_n 2, 1, 0, 0, 0, 0), 7, 2), ((23, .aload_n 0, 1, 0, 0, 0, 0), 5, 0), ((24, .bipush 14, 2, 14, 0, 0, 0), 13, 0), ((26, .iconst 0, 1, 0, 0, 0, 0), 12, 0), ((27, .iconst 0, 1, 0, 0, 0, 0), 12, 0), ((28, .iconst 0, 1, 0, 0, 0, 0), 12, 0), ((29, .invokevirtual 682, 3, 14, 5, 0, 225), 56, 0)],
  [((32, .istore_n 2, 1, 0, 0, 0, 0), 7, 2), ((33, .aload_n 0, 1, 0, 0, 0, 0), 5, 0), ((37, .ifCond .ne 5, 3, 42, 0, 0, 0), 39, 0), ((40, .iconst 0, 1, 0, 0, 0, 0), 12, 0), ((41, .ireturn, 1, 0, 0, 0, 0), 1000, 0), ((42, .aload_n 0, 1, 0, 0, 0, 0), 5, 0), ((43, .bipush 37, 2, 37, 0, 0, 0), 13, 0), ((45, .iload_n 1, 1, 0, 0, 0, 0), 1, 1), ((46, .iconst 0, 1, 0, 0, 0, 0), 12, 0), ((47, .iconst 0, 1, 0, 0, 0, 0), 12, 0)],
  [((48, .invokevirtual 686, 3, 15, 5, 0, 226), 56, 0), ((51, .aload_n 0, 1, 0, 0, 0, 0), 5, 0), ((55, .ifCond .eq 20, 3, 75, 0, 0, 0), 38, 0), ((58, .aload_n 0, 1, 0, 0, 0, 0), 5, 0), ((59, .bipush 14, 2, 14, 0, 0, 0), 13, 0), ((61, .iconst 0, 1, 0, 0, 0, 0), 12, 0), ((62, .iconst 0, 1, 0, 0, 0, 0), 12, 0), ((63, .iconst 0, 1, 0, 0, 0, 0), 12, 0)],
  [((64, .invokevirtual 686, 3, 15, 5, 0, 226), 56, 0), ((67, .aload_n 0, 1, 0, 0, 0, 0), 5, 0), ((68, .iconst 3, 1, 3, 0, 0, 0), 12, 0), ((69, .iconst 0, 1, 0, 0, 0, 0), 12, 0), ((70, .iconst 0, 1, 0, 0, 0, 0), 12, 0), ((71, .iconst 0, 1, 0, 0, 0, 0), 12, 0), ((72, .invokevirtual 686, 3, 15, 5, 0, 226), 56, 0), ((75, .iconst 1, 1, 1, 0, 0, 0), 12, 0), ((76, .ireturn, 1, 0, 0, 0, 0), 1000, 0), ((77, .aload_n 0, 1, 0, 0, 0, 0), 5, 0), ((78, .invokevirtual 696, 3, 19, 1, 0, 231), 56, 0)],
  [((81, .ifCond .ne 5, 3, 86, 0, 0, 0), 39, 0), ((84, .iconst 1, 1, 1, 0, 0, 0), 12, 0), ((85, .ireturn, 1, 0, 0, 0, 0), 1000, 0), ((86, .aload_n 0, 1, 0, 0, 0, 0), 5, 0), ((87, .iconst 0, 1, 0, 0, 0, 0), 12, 0), ((88, .iconst 0, 1, 0, 0, 0, 0), 12, 0), ((89, .iconst 0, 1, 0, 0, 0, 0), 12, 0), ((90, .iconst 0, 1, 0, 0, 0, 0), 12, 0), ((91, .invokevirtual 686, 3, 15, 5, 0, 226), 56, 0), ((94, .aload_n 0, 1, 0, 0, 0, 0), 5, 0)],
  [((98, .ifCond .ne 5, 3, 103, 0, 0, 0), 39, 0), ((101, .iconst 0, 1, 0, 0, 0, 0), 12, 0), ((102, .ireturn, 1, 0, 0, 0, 0), 1000, 0), ((103, .aload_n 0, 1, 0, 0, 0, 0), 5, 0), ((104, .iconst 1, 1, 1, 0, 0, 0), 12, 0), ((105, .iconst 0, 1, 0, 0, 0, 0), 12, 0), ((106, .iconst 0, 1, 0, 0, 0, 0), 12, 0), ((107, .iconst 0, 1, 0, 0, 0, 0), 12, 0), ((108, .invokevirtual 686, 3, 15, 5, 0, 226), 56, 0), ((111, .aload_n 0, 1, 0, 0, 0, 0), 5, 0)],
  [((115, .ireturn, 1, 0, 0, 0, 0), 1000, 0)]])
def mo_mX12_isWord : ev_MeK := (mo_yX12_isWord, prog_14_method_34_code, 2, (some .boolean), [[((0, .aload_n 0, 1, 0, 0, 0, 0), 5, 0), ((1, .getfield 36, 3, 0, 21, 20, 14), 50, 0), ((4, .aload_n 0, 1, 0, 0, 0, 0), 5, 0), ((5, .getfield 624, 3, 0, 25, 0, 216), 50, 0), ((8, .iaload, 1, 0, 0, 0, 0), 52, 0), ((9, .iconst 4, 1, 4, 0, 0, 0), 12, 0), ((10, .if_icmp .ne 22, 3, 32, 0, 0, 0), 45, 0), ((13, .aload_n 0, 1, 0, 0, 0, 0), 5, 0), ((14, .getfield 42, 3, 0, 23, 20, 17), 50, 0)],
  [((17, .aload_n 0, 1, 0, 0, 0, 0), 5, 0), ((18, .getfield 624, 3, 0, 25, 0, 216), 50, 0), ((21, .laload, 1, 0, 0, 0, 0), 58, 0), ((22, .iload_n 1, 1, 0, 0, 0, 0), 1, 1), ((23, .i2l, 1, 0, 0, 0, 0), 26, 0), ((24, .lcmp, 1, 0, 0, 0, 0), 32, 0), ((25, .ifCond .ne 7, 3, 32, 0, 0, 0), 39, 0), ((28, .iconst 1, 1, 1, 0, 0, 0), 12, 0), ((29, .goto 4, 3, 33, 0, 0, 0), 37, 0)],
  [((32, .iconst 0, 1, 0, 0, 0, 0), 12, 0), ((33, .ireturn, 1, 0, 0, 0, 0), 1000, 0)]])
def mo_mX12_beginsStatement : ev_MeK := (mo_yX12_beginsStatement, prog_14_method_42_code, 2, (some .boolean), [[((0, .aload_n 0, 1, 0, 0, 0, 0), 5, 0), ((1, .getfield 36, 3, 0, 21, 20, 14), 50, 0), ((4, .aload_n 0, 1, 0, 0, 0, 0), 5, 0), ((5, .getfield 624, 3, 0, 25, 0, 216), 50, 0), ((8, .iaload, 1, 0, 0, 0, 0), 52, 0), ((9, .iconst 1, 1, 1, 0, 0, 0), 12, 0), ((10, .if_icmp .eq 21, 3, 31, 0, 0, 0), 44, 0), ((13, .aload_n 0, 1, 0, 0, 0, 0), 5, 0), ((14, .bipush 59, 2, 59, 0, 0, 0), 13, 0)],
  [((16, .invokevirtual 635, 3, 20, 2, 0, 232), 56, 0), ((19, .ifCond .ne 12, 3, 31, 0, 0, 0), 39, 0), ((22, .aload_n 0, 1, 0, 0, 0, 0), 5, 0), ((23, .bipush 40, 2, 40, 0, 0, 0), 13, 0), ((25, .invokevirtual 635, 3, 20, 2, 0, 232), 56, 0), ((28, .ifCond .eq 5, 3, 33, 0, 0, 0), 38, 0), ((31, .iconst 1, 1, 1, 0, 0, 0), 12, 0)],
  [((32, .ireturn, 1, 0, 0, 0, 0), 1000, 0), ((33, .aload_n 0, 1, 0, 0, 0, 0), 5, 0), ((34, .getfield 36, 3, 0, 21, 20, 14), 50, 0), ((37, .aload_n 0, 1, 0, 0, 0, 0), 5, 0), ((38, .getfield 624, 3, 0, 25, 0, 216), 50, 0), ((41, .iaload, 1, 0, 0, 0, 0), 52, 0), ((42, .iconst 4, 1, 4, 0, 0, 0), 12, 0), ((43, .if_icmp .ne 16, 3, 59, 0, 0, 0), 45, 0), ((46, .aload_n 0, 1, 0, 0, 0, 0), 5, 0), ((47, .getfield 42, 3, 0, 23, 20, 17), 50, 0)],
  [((50, .aload_n 0, 1, 0, 0, 0, 0), 5, 0), ((51, .getfield 624, 3, 0, 25, 0, 216), 50, 0), ((54, .laload, 1, 0, 0, 0, 0), 58, 0), ((55, .l2i, 1, 0, 0, 0, 0), 33, 0), ((56, .goto 4, 3, 60, 0, 0, 0), 37, 0), ((59, .iconst 0, 1, 0, 0, 0, 0), 12, 0), ((60, .istore_n 1, 1, 0, 0, 0, 0), 7, 1), ((61, .iload_n 1, 1, 0, 0, 0, 0), 1, 1), ((62, .iconst 3, 1, 3, 0, 0, 0), 12, 0), ((63, .if_icmp .eq 44, 3, 107, 0, 0, 0), 44, 0)],
  [((66, .iload_n 1, 1, 0, 0, 0, 0), 1, 1), ((67, .bipush 21, 2, 21, 0, 0, 0), 13, 0), ((69, .if_icmp .eq 38, 3, 107, 0, 0, 0), 44, 0), ((72, .iload_n 1, 1, 0, 0, 0, 0), 1, 1), ((73, .bipush 16, 2, 16, 0, 0, 0), 13, 0), ((75, .if_icmp .eq 32, 3, 107, 0, 0, 0), 44, 0), ((78, .iload_n 1, 1, 0, 0, 0, 0), 1, 1), ((79, .bipush 10, 2, 10, 0, 0, 0), 13, 0)],
  [((81, .if_icmp .eq 26, 3, 107, 0, 0, 0), 44, 0), ((84, .iload_n 1, 1, 0, 0, 0, 0), 1, 1), ((85, .bipush 8, 2, 8, 0, 0, 0), 13, 0), ((87, .if_icmp .eq 20, 3, 107, 0, 0, 0), 44, 0), ((90, .iload_n 1, 1, 0, 0, 0, 0), 1, 1), ((91, .bipush 9, 2, 9, 0, 0, 0), 13, 0), ((93, .if_icmp .eq 14, 3, 107, 0, 0, 0), 44, 0)],
  [((96, .iload_n 1, 1, 0, 0, 0, 0), 1, 1), ((97, .bipush 12, 2, 12, 0, 0, 0), 13, 0), ((99, .if_icmp .eq 8, 3, 107, 0, 0, 0), 44, 0), ((102, .iload_n 1, 1, 0, 0, 0, 0), 1, 1), ((103, .iconst 2, 1, 2, 0, 0, 0), 12, 0), ((104, .if_icmp .ne 7, 3, 111, 0, 0, 0), 45, 0), ((107, .iconst 1, 1, 1, 0, 0, 0), 12, 0), ((108, .goto 4, 3, 112, 0, 0, 0), 37, 0), ((111, .iconst 0, 1, 0, 0, 0, 0), 12, 0)],
  [((112, .ireturn, 1, 0, 0, 0, 0), 1000, 0)]])
def mo_mX12_isSign : ev_MeK := (mo_yX12_isSign, prog_14_method_33_code, 2, (some .boolean), [[((0, .aload_n 0, 1, 0, 0, 0, 0), 5, 0), ((1, .getfield 36, 3, 0, 21, 20, 14), 50, 0), ((4, .aload_n 0, 1, 0, 0, 0, 0), 5, 0), ((5, .getfield 624, 3, 0, 25, 0, 216), 50, 0), ((8, .iaload, 1, 0, 0, 0, 0), 52, 0), ((9, .iconst 5, 1, 5, 0, 0, 0), 12, 0), ((10, .if_icmp .ne 22, 3, 32, 0, 0, 0), 45, 0), ((13, .aload_n 0, 1, 0, 0, 0, 0), 5, 0), ((14, .getfield 42, 3, 0, 23, 20, 17), 50, 0)],
  [((17, .aload_n 0, 1, 0, 0, 0, 0), 5, 0), ((18, .getfield 624, 3, 0, 25, 0, 216), 50, 0), ((21, .laload, 1, 0, 0, 0, 0), 58, 0), ((22, .iload_n 1, 1, 0, 0, 0, 0), 1, 1), ((23, .i2l, 1, 0, 0, 0, 0), 26, 0), ((24, .lcmp, 1, 0, 0, 0, 0), 32, 0), ((25, .ifCond .ne 7, 3, 32, 0, 0, 0), 39, 0), ((28, .iconst 1, 1, 1, 0, 0, 0), 12, 0), ((29, .goto 4, 3, 33, 0, 0, 0), 37, 0)],
  [((32, .iconst 0, 1, 0, 0, 0, 0), 12, 0), ((33, .ireturn, 1, 0, 0, 0, 0), 1000, 0)]])
def mo_mX12_goOnStatement : ev_MeK := (mo_yX12_goOnStatement, prog_14_method_104_code, 6, (some .boolean), [[((0, .iload_n 1, 1, 0, 0, 0, 0), 1, 1), ((1, .tableswitch 268 21 41 #[99, 105, 112, 118, 125, 131, 137, 144, 153, 162, 169, 178, 187, 196, 205, 214, 223, 268, 229, 246, 259], 99, 0, 0, 0, 0), 58, 0)],
  [],
  [],
  [],
  [],
  [],
  [((100, .aload_n 0, 1, 0, 0, 0, 0), 5, 0), ((101, .iload_n 2, 1, 0, 0, 0, 0), 1, 2), ((105, .ireturn, 1, 0, 0, 0, 0), 1000, 0), ((106, .aload_n 0, 1, 0, 0, 0, 0), 5, 0), ((107, .iload_n 2, 1, 0, 0, 0, 0), 1, 2), ((108, .iload_n 3, 1, 0, 0, 0, 0), 1, 3)],
  [((112, .ireturn, 1, 0, 0, 0, 0), 1000, 0), ((113, .aload_n 0, 1, 0, 0, 0, 0), 5, 0), ((114, .iload_n 2, 1, 0, 0, 0, 0), 1, 2), ((118, .ireturn, 1, 0, 0, 0, 0), 1000, 0), ((119, .aload_n 0, 1, 0, 0, 0, 0), 5, 0), ((120, .iload_n 2, 1, 0, 0, 0, 0), 1, 2), ((121, .iload_n 3, 1, 0, 0, 0, 0), 1, 3), ((125, .ireturn, 1, 0, 0, 0, 0), 1000, 0), ((126, .aload_n 0, 1, 0, 0, 0, 0), 5, 0), ((127, .iload_n 2, 1, 0, 0, 0, 0), 1, 2)],
  [((131, .ireturn, 1, 0, 0, 0, 0), 1000, 0), ((132, .aload_n 0, 1, 0, 0, 0, 0), 5, 0), ((133, .iload_n 2, 1, 0, 0, 0, 0), 1, 2), ((137, .ireturn, 1, 0, 0, 0, 0), 1000, 0), ((138, .aload_n 0, 1, 0, 0, 0, 0), 5, 0), ((139, .iload_n 2, 1, 0, 0, 0, 0), 1, 2), ((140, .iload_n 3, 1, 0, 0, 0, 0), 1, 3)],
  [((144, .ireturn, 1, 0, 0, 0, 0), 1000, 0), ((145, .aload_n 0, 1, 0, 0, 0, 0), 5, 0), ((146, .iload_n 2, 1, 0, 0, 0, 0), 1, 2), ((147, .iload_n 3, 1, 0, 0, 0, 0), 1, 3), ((148, .iload 4, 2, 0, 0, 0, 0), 0, 4), ((153, .ireturn, 1, 0, 0, 0, 0), 1000, 0), ((154, .aload_n 0, 1, 0, 0, 0, 0), 5, 0), ((155, .iload_n 2, 1, 0, 0, 0, 0), 1, 2), ((156, .iload_n 3, 1, 0, 0, 0, 0), 1, 3), ((157, .iload 4, 2, 0, 0, 0, 0), 0, 4)],
  [((162, .ireturn, 1, 0, 0, 0, 0), 1000, 0), ((163, .aload_n 0, 1, 0, 0, 0, 0), 5, 0), ((164, .bipush 6, 2, 6, 0, 0, 0), 13, 0), ((169, .ireturn, 1, 0, 0, 0, 0), 1000, 0), ((170, .aload_n 0, 1, 0, 0, 0, 0), 5, 0), ((171, .iload_n 2, 1, 0, 0, 0, 0), 1, 2), ((172, .iload_n 3, 1, 0, 0, 0, 0), 1, 3), ((173, .iload 4, 2, 0, 0, 0, 0), 0, 4)],
  [((178, .ireturn, 1, 0, 0, 0, 0), 1000, 0), ((179, .aload_n 0, 1, 0, 0, 0, 0), 5, 0), ((180, .iload_n 2, 1, 0, 0, 0, 0), 1, 2), ((181, .iload_n 3, 1, 0, 0, 0, 0), 1, 3), ((182, .iload 4, 2, 0, 0, 0, 0), 0, 4), ((187, .ireturn, 1, 0, 0, 0, 0), 1000, 0), ((188, .aload_n 0, 1, 0, 0, 0, 0), 5, 0), ((189, .iload_n 2, 1, 0, 0, 0, 0), 1, 2), ((190, .iload_n 3, 1, 0, 0, 0, 0), 1, 3), ((191, .iload 4, 2, 0, 0, 0, 0), 0, 4)],
  [((196, .ireturn, 1, 0, 0, 0, 0), 1000, 0), ((197, .aload_n 0, 1, 0, 0, 0, 0), 5, 0), ((198, .iload_n 2, 1, 0, 0, 0, 0), 1, 2), ((199, .iload_n 3, 1, 0, 0, 0, 0), 1, 3), ((200, .iload 4, 2, 0, 0, 0, 0), 0, 4), ((205, .ireturn, 1, 0, 0, 0, 0), 1000, 0), ((206, .aload_n 0, 1, 0, 0, 0, 0), 5, 0), ((207, .iload_n 2, 1, 0, 0, 0, 0), 1, 2)],
  [((208, .iload_n 3, 1, 0, 0, 0, 0), 1, 3), ((209, .iload 4, 2, 0, 0, 0, 0), 0, 4), ((214, .ireturn, 1, 0, 0, 0, 0), 1000, 0), ((215, .aload_n 0, 1, 0, 0, 0, 0), 5, 0), ((216, .iload_n 2, 1, 0, 0, 0, 0), 1, 2), ((217, .iload_n 3, 1, 0, 0, 0, 0), 1, 3), ((218, .iload 4, 2, 0, 0, 0, 0), 0, 4), ((223, .ireturn, 1, 0, 0, 0, 0), 1000, 0)],
  [((224, .aload_n 0, 1, 0, 0, 0, 0), 5, 0), ((225, .iload_n 2, 1, 0, 0, 0, 0), 1, 2), ((229, .ireturn, 1, 0, 0, 0, 0), 1000, 0), ((230, .aload_n 0, 1, 0, 0, 0, 0), 5, 0), ((231, .iload_n 2, 1, 0, 0, 0, 0), 1, 2), ((232, .iload_n 3, 1, 0, 0, 0, 0), 1, 3), ((233, .iload 4, 2, 0, 0, 0, 0), 0, 4), ((235, .bipush 100, 2, 100, 0, 0, 0), 13, 0), ((237, .idiv, 1, 0, 0, 0, 0), 58, 0), ((238, .iload 4, 2, 0, 0, 0, 0), 0, 4)],
  [((240, .bipush 100, 2, 100, 0, 0, 0), 13, 0), ((242, .irem, 1, 0, 0, 0, 0), 58, 0), ((246, .ireturn, 1, 0, 0, 0, 0), 1000, 0), ((247, .aload_n 0, 1, 0, 0, 0, 0), 5, 0), ((248, .bipush 9, 2, 9, 0, 0, 0), 13, 0), ((250, .iload_n 2, 1, 0, 0, 0, 0), 1, 2), ((251, .iconst 0, 1, 0, 0, 0, 0), 12, 0), ((252, .iconst 0, 1, 0, 0, 0, 0), 12, 0), ((253, .invokevirtual 682, 3, 14, 5, 0, 225), 56, 0)],
  [((256, .istore 5, 2, 0, 0, 0, 0), 6, 5), ((258, .iconst 1, 1, 1, 0, 0, 0), 12, 0), ((259, .ireturn, 1, 0, 0, 0, 0), 1000, 0), ((260, .aload_n 0, 1, 0, 0, 0, 0), 5, 0), ((261, .iload_n 2, 1, 0, 0, 0, 0), 1, 2), ((262, .iload_n 3, 1, 0, 0, 0, 0), 1, 3), ((263, .iload 4, 2, 0, 0, 0, 0), 0, 4), ((268, .ireturn, 1, 0, 0, 0, 0), 1000, 0), ((269, .aload_n 0, 1, 0, 0, 0, 0), 5, 0), ((270, .getfield 36, 3, 0, 21, 20, 14), 50, 0)],
  [((273, .aload_n 0, 1, 0, 0, 0, 0), 5, 0), ((274, .getfield 624, 3, 0, 25, 0, 216), 50, 0), ((277, .iaload, 1, 0, 0, 0, 0), 52, 0), ((278, .bipush 6, 2, 6, 0, 0, 0), 13, 0), ((280, .if_icmp .eq 10, 3, 290, 0, 0, 0), 44, 0), ((283, .aload_n 0, 1, 0, 0, 0, 0), 5, 0), ((287, .ifCond .eq 7, 3, 294, 0, 0, 0), 38, 0)],
  [((290, .iconst 1, 1, 1, 0, 0, 0), 12, 0), ((291, .goto 4, 3, 295, 0, 0, 0), 37, 0), ((294, .iconst 0, 1, 0, 0, 0, 0), 12, 0), ((295, .ireturn, 1, 0, 0, 0, 0), 1000, 0)]])
def mo_mX12_reload : ev_MeK := (mo_yX12_reload, prog_14_method_237_code, 3, none, [[((0, .aload_n 0, 1, 0, 0, 0, 0), 5, 0), ((1, .invokevirtual 1489, 3, 30, 1, 0, 233), 56, 0), ((4, .aload_n 0, 1, 0, 0, 0, 0), 5, 0), ((5, .getfield 131, 3, 0, 72, 20, 47), 50, 0), ((8, .sipush 2001, 3, 2001, 0, 0, 0), 14, 0), ((11, .iconst (-1), 1, 4294967295, 0, 0, 0), 12, 0), ((12, .iastore, 1, 0, 0, 0, 0), 53, 0), ((13, .aload_n 0, 1, 0, 0, 0, 0), 5, 0), ((14, .getfield 134, 3, 0, 73, 20, 48), 50, 0)],
  [((17, .sipush 2001, 3, 2001, 0, 0, 0), 14, 0), ((20, .iconst (-1), 1, 4294967295, 0, 0, 0), 12, 0), ((21, .iastore, 1, 0, 0, 0, 0), 53, 0), ((22, .aload_n 0, 1, 0, 0, 0, 0), 5, 0), ((23, .getfield 128, 3, 0, 71, 20, 46), 50, 0), ((26, .sipush 2001, 3, 2001, 0, 0, 0), 14, 0), ((29, .iconst 0, 1, 0, 0, 0, 0), 12, 0), ((30, .iastore, 1, 0, 0, 0, 0), 53, 0), ((31, .iconst 0, 1, 0, 0, 0, 0), 12, 0)],
  [((32, .istore_n 1, 1, 0, 0, 0, 0), 7, 1), ((33, .iload_n 1, 1, 0, 0, 0, 0), 1, 1), ((34, .bipush 17, 2, 17, 0, 0, 0), 13, 0), ((36, .if_icmp .ge 24, 3, 60, 0, 0, 0), 47, 0), ((39, .aload_n 0, 1, 0, 0, 0, 0), 5, 0), ((40, .sipush 2001, 3, 2001, 0, 0, 0), 14, 0), ((43, .bipush 37, 2, 37, 0, 0, 0), 13, 0), ((45, .iload_n 1, 1, 0, 0, 0, 0), 1, 1), ((46, .iadd, 1, 0, 0, 0, 0), 16, 0), ((47, .bipush 7, 2, 7, 0, 0, 0), 13, 0)],
  [((49, .iload_n 1, 1, 0, 0, 0, 0), 1, 1), ((50, .i2l, 1, 0, 0, 0, 0), 26, 0), ((51, .invokevirtual 1492, 3, 23, 5, 0, 234), 56, 0), ((54, .iinc 1 1, 3, 1, 0, 0, 0), 36, 1), ((57, .goto (-24), 3, 33, 0, 0, 0), 37, 0), ((60, .iconst 0, 1, 0, 0, 0, 0), 12, 0), ((61, .istore_n 1, 1, 0, 0, 0, 0), 7, 1), ((62, .iload_n 1, 1, 0, 0, 0, 0), 1, 1), ((63, .iconst 3, 1, 3, 0, 0, 0), 12, 0)],
  [((64, .if_icmp .ge 29, 3, 93, 0, 0, 0), 47, 0), ((67, .aload_n 0, 1, 0, 0, 0, 0), 5, 0), ((68, .iconst 4, 1, 4, 0, 0, 0), 12, 0), ((69, .invokevirtual 1223, 3, 27, 2, 0, 235), 56, 0), ((72, .istore_n 2, 1, 0, 0, 0, 0), 7, 2), ((73, .aload_n 0, 1, 0, 0, 0, 0), 5, 0), ((74, .sipush 2001, 3, 2001, 0, 0, 0), 14, 0), ((77, .bipush 54, 2, 54, 0, 0, 0), 13, 0), ((79, .iload_n 1, 1, 0, 0, 0, 0), 1, 1)],
  [((80, .iadd, 1, 0, 0, 0, 0), 16, 0), ((81, .iconst 4, 1, 4, 0, 0, 0), 12, 0), ((82, .iload_n 2, 1, 0, 0, 0, 0), 1, 2), ((83, .i2l, 1, 0, 0, 0, 0), 26, 0), ((84, .invokevirtual 1492, 3, 23, 5, 0, 234), 56, 0), ((87, .iinc 1 1, 3, 1, 0, 0, 0), 36, 1), ((90, .goto (-28), 3, 62, 0, 0, 0), 37, 0), ((93, .bipush 17, 2, 17, 0, 0, 0), 13, 0), ((95, .istore_n 1, 1, 0, 0, 0, 0), 7, 1)],
  [((96, .iload_n 1, 1, 0, 0, 0, 0), 1, 1), ((97, .bipush 22, 2, 22, 0, 0, 0), 13, 0), ((99, .if_icmp .ge 25, 3, 124, 0, 0, 0), 47, 0), ((102, .aload_n 0, 1, 0, 0, 0, 0), 5, 0), ((103, .iconst 1, 1, 1, 0, 0, 0), 12, 0), ((104, .bipush 57, 2, 57, 0, 0, 0), 13, 0), ((106, .iload_n 1, 1, 0, 0, 0, 0), 1, 1), ((107, .iadd, 1, 0, 0, 0, 0), 16, 0), ((108, .bipush 17, 2, 17, 0, 0, 0), 13, 0), ((110, .isub, 1, 0, 0, 0, 0), 17, 0), ((111, .bipush 7, 2, 7, 0, 0, 0), 13, 0)],
  [((113, .iload_n 1, 1, 0, 0, 0, 0), 1, 1), ((114, .i2l, 1, 0, 0, 0, 0), 26, 0), ((115, .invokevirtual 1492, 3, 23, 5, 0, 234), 56, 0), ((118, .iinc 1 1, 3, 1, 0, 0, 0), 36, 1), ((121, .goto (-25), 3, 96, 0, 0, 0), 37, 0), ((124, .bipush 22, 2, 22, 0, 0, 0), 13, 0), ((126, .istore_n 1, 1, 0, 0, 0, 0), 7, 1), ((127, .iload_n 1, 1, 0, 0, 0, 0), 1, 1)],
  [((128, .bipush 26, 2, 26, 0, 0, 0), 13, 0), ((130, .if_icmp .ge 25, 3, 155, 0, 0, 0), 47, 0), ((133, .aload_n 0, 1, 0, 0, 0, 0), 5, 0), ((134, .iconst 2, 1, 2, 0, 0, 0), 12, 0), ((135, .bipush 62, 2, 62, 0, 0, 0), 13, 0), ((137, .iload_n 1, 1, 0, 0, 0, 0), 1, 1), ((138, .iadd, 1, 0, 0, 0, 0), 16, 0), ((139, .bipush 22, 2, 22, 0, 0, 0), 13, 0), ((141, .isub, 1, 0, 0, 0, 0), 17, 0), ((142, .bipush 7, 2, 7, 0, 0, 0), 13, 0)],
  [((144, .iload_n 1, 1, 0, 0, 0, 0), 1, 1), ((145, .i2l, 1, 0, 0, 0, 0), 26, 0), ((146, .invokevirtual 1492, 3, 23, 5, 0, 234), 56, 0), ((149, .iinc 1 1, 3, 1, 0, 0, 0), 36, 1), ((152, .goto (-25), 3, 127, 0, 0, 0), 37, 0), ((155, .bipush 26, 2, 26, 0, 0, 0), 13, 0), ((157, .istore_n 1, 1, 0, 0, 0, 0), 7, 1), ((158, .iload_n 1, 1, 0, 0, 0, 0), 1, 1), ((159, .bipush 31, 2, 31, 0, 0, 0), 13, 0)],
  [((161, .if_icmp .ge 47, 3, 208, 0, 0, 0), 47, 0), ((164, .aload_n 0, 1, 0, 0, 0, 0), 5, 0), ((165, .iconst 3, 1, 3, 0, 0, 0), 12, 0), ((166, .iload_n 1, 1, 0, 0, 0, 0), 1, 1), ((167, .bipush 26, 2, 26, 0, 0, 0), 13, 0), ((169, .if_icmp .ne 8, 3, 177, 0, 0, 0), 45, 0), ((172, .bipush 29, 2, 29, 0, 0, 0), 13, 0), ((174, .goto 21, 3, 195, 0, 0, 0), 37, 0)],
  [((177, .iload_n 1, 1, 0, 0, 0, 0), 1, 1), ((178, .bipush 30, 2, 30, 0, 0, 0), 13, 0), ((180, .if_icmp .ne 8, 3, 188, 0, 0, 0), 45, 0), ((183, .bipush 31, 2, 31, 0, 0, 0), 13, 0), ((185, .goto 10, 3, 195, 0, 0, 0), 37, 0), ((188, .bipush 66, 2, 66, 0, 0, 0), 13, 0), ((190, .iload_n 1, 1, 0, 0, 0, 0), 1, 1), ((191, .iadd, 1, 0, 0, 0, 0), 16, 0)],
  [((192, .bipush 27, 2, 27, 0, 0, 0), 13, 0), ((194, .isub, 1, 0, 0, 0, 0), 17, 0), ((195, .bipush 7, 2, 7, 0, 0, 0), 13, 0), ((197, .iload_n 1, 1, 0, 0, 0, 0), 1, 1), ((198, .i2l, 1, 0, 0, 0, 0), 26, 0), ((199, .invokevirtual 1492, 3, 23, 5, 0, 234), 56, 0), ((202, .iinc 1 1, 3, 1, 0, 0, 0), 36, 1), ((205, .goto (-47), 3, 158, 0, 0, 0), 37, 0)],
  [((208, .aload_n 0, 1, 0, 0, 0, 0), 5, 0), ((209, .iconst 0, 1, 0, 0, 0, 0), 12, 0), ((210, .putfield 1078, 3, 0, 111, 0, 236), 51, 0), ((213, .aload_n 0, 1, 0, 0, 0, 0), 5, 0), ((214, .getfield 187, 3, 0, 97, 20, 67), 50, 0), ((217, .iconst 0, 1, 0, 0, 0, 0), 12, 0), ((218, .iconst 2, 1, 2, 0, 0, 0), 12, 0), ((219, .iastore, 1, 0, 0, 0, 0), 53, 0), ((220, .aload_n 0, 1, 0, 0, 0, 0), 5, 0), ((221, .getfield 190, 3, 0, 98, 20, 68), 50, 0)],
  [((224, .iconst 0, 1, 0, 0, 0, 0), 12, 0), ((225, .iconst 0, 1, 0, 0, 0, 0), 12, 0), ((226, .iastore, 1, 0, 0, 0, 0), 53, 0), ((227, .aload_n 0, 1, 0, 0, 0, 0), 5, 0), ((228, .getfield 199, 3, 0, 101, 20, 71), 50, 0), ((231, .iconst 0, 1, 0, 0, 0, 0), 12, 0), ((232, .iconst 0, 1, 0, 0, 0, 0), 12, 0), ((233, .iastore, 1, 0, 0, 0, 0), 53, 0), ((234, .aload_n 0, 1, 0, 0, 0, 0), 5, 0), ((235, .getfield 202, 3, 0, 102, 20, 72), 50, 0), ((238, .iconst 0, 1, 0, 0, 0, 0), 12, 0), ((239, .iconst 0, 1, 0, 0, 0, 0), 12, 0)],
  [((240, .iastore, 1, 0, 0, 0, 0), 53, 0), ((241, .aload_n 0, 1, 0, 0, 0, 0), 5, 0), ((242, .getfield 205, 3, 0, 103, 20, 73), 50, 0), ((245, .iconst 0, 1, 0, 0, 0, 0), 12, 0), ((246, .iconst 0, 1, 0, 0, 0, 0), 12, 0), ((247, .iastore, 1, 0, 0, 0, 0), 53, 0), ((248, .aload_n 0, 1, 0, 0, 0, 0), 5, 0), ((249, .getfield 208, 3, 0, 104, 20, 74), 50, 0), ((252, .iconst 0, 1, 0, 0, 0, 0), 12, 0), ((253, .iconst 0, 1, 0, 0, 0, 0), 12, 0), ((254, .iastore, 1, 0, 0, 0, 0), 53, 0), ((255, .aload_n 0, 1, 0, 0, 0, 0), 5, 0)],
  [((256, .iconst 0, 1, 0, 0, 0, 0), 12, 0), ((257, .putfield 1090, 3, 0, 137, 0, 237), 51, 0), ((260, .aload_n 0, 1, 0, 0, 0, 0), 5, 0), ((261, .iconst 0, 1, 0, 0, 0, 0), 12, 0), ((262, .iconst (-1), 1, 4294967295, 0, 0, 0), 12, 0), ((263, .iconst 0, 1, 0, 0, 0, 0), 12, 0), ((264, .invokevirtual 1114, 3, 28, 4, 0, 238), 56, 0), ((267, .aload_n 0, 1, 0, 0, 0, 0), 5, 0), ((268, .iconst 0, 1, 0, 0, 0, 0), 12, 0), ((269, .iconst 0, 1, 0, 0, 0, 0), 12, 0), ((270, .invokevirtual 1131, 3, 29, 3, 0, 239), 56, 0)],
  [((273, .aload_n 0, 1, 0, 0, 0, 0), 5, 0), ((274, .iconst 0, 1, 0, 0, 0, 0), 12, 0), ((275, .putfield 1024, 3, 0, 129, 0, 240), 51, 0), ((278, .return_, 1, 0, 0, 0, 0), 1000, 0)]])
def mo_mX12_fill : ev_MeK := (mo_yX12_fill, prog_14_method_235_code, 7, none, [[((0, .aload_n 0, 1, 0, 0, 0, 0), 5, 0), ((1, .iload_n 1, 1, 0, 0, 0, 0), 1, 1), ((2, .iconst 3, 1, 3, 0, 0, 0), 12, 0), ((3, .iload_n 2, 1, 0, 0, 0, 0), 1, 2), ((4, .i2l, 1, 0, 0, 0, 0), 26, 0), ((5, .iload_n 3, 1, 0, 0, 0, 0), 1, 3), ((6, .lload 4, 2, 0, 0, 0, 0), 2, 4), ((8, .invokevirtual 1124, 3, 24, 6, 0, 241), 56, 0), ((11, .istore 6, 2, 0, 0, 0, 0), 6, 6), ((13, .return_, 1, 0, 0, 0, 0), 1000, 0)]])
def mo_mX12_set : ev_MeK := (mo_yX12_set, prog_14_method_125_code, 10, (some .boolean), [[((0, .aload_n 0, 1, 0, 0, 0, 0), 5, 0), ((1, .iload_n 1, 1, 0, 0, 0, 0), 1, 1), ((2, .iload_n 2, 1, 0, 0, 0, 0), 1, 2), ((3, .lload_n 3, 1, 0, 0, 0, 0), 3, 3), ((4, .invokevirtual 1046, 3, 25, 4, 0, 242), 56, 0), ((7, .istore 8, 2, 0, 0, 0, 0), 6, 8), ((9, .iload 8, 2, 0, 0, 0, 0), 0, 8), ((11, .ifCond .ge 10, 3, 21, 0, 0, 0), 41, 0), ((14, .iload 5, 2, 0, 0, 0, 0), 0, 5)],
  [((16, .ifCond .ne 5, 3, 21, 0, 0, 0), 39, 0), ((19, .iconst 1, 1, 1, 0, 0, 0), 12, 0), ((20, .ireturn, 1, 0, 0, 0, 0), 1000, 0), ((21, .iload 8, 2, 0, 0, 0, 0), 0, 8), ((23, .ifCond .ge 155, 3, 178, 0, 0, 0), 41, 0), ((26, .aload_n 0, 1, 0, 0, 0, 0), 5, 0), ((27, .getfield 1055, 3, 0, 89, 0, 243), 50, 0), ((30, .sipush 3000, 3, 3000, 0, 0, 0), 14, 0)],
  [((33, .if_icmp .ne 10, 3, 43, 0, 0, 0), 45, 0), ((36, .aload_n 0, 1, 0, 0, 0, 0), 5, 0), ((37, .iconst 4, 1, 4, 0, 0, 0), 12, 0), ((38, .putfield 937, 3, 0, 143, 0, 244), 51, 0), ((41, .iconst 0, 1, 0, 0, 0, 0), 12, 0), ((42, .ireturn, 1, 0, 0, 0, 0), 1000, 0), ((43, .aload_n 0, 1, 0, 0, 0, 0), 5, 0), ((44, .dup, 1, 0, 0, 0, 0), 35, 0), ((45, .getfield 1058, 3, 0, 88, 0, 245), 50, 0)],
  [((48, .iconst 1, 1, 1, 0, 0, 0), 12, 0), ((49, .isub, 1, 0, 0, 0, 0), 17, 0), ((50, .putfield 1058, 3, 0, 88, 0, 245), 51, 0), ((53, .aload_n 0, 1, 0, 0, 0, 0), 5, 0), ((54, .getfield 171, 3, 0, 87, 20, 61), 50, 0), ((57, .aload_n 0, 1, 0, 0, 0, 0), 5, 0), ((58, .getfield 1058, 3, 0, 88, 0, 245), 50, 0), ((61, .iaload, 1, 0, 0, 0, 0), 52, 0), ((62, .istore 8, 2, 0, 0, 0, 0), 6, 8)],
  [((64, .aload_n 0, 1, 0, 0, 0, 0), 5, 0), ((65, .dup, 1, 0, 0, 0, 0), 35, 0), ((66, .getfield 1055, 3, 0, 89, 0, 243), 50, 0), ((69, .iconst 1, 1, 1, 0, 0, 0), 12, 0), ((70, .iadd, 1, 0, 0, 0, 0), 16, 0), ((71, .putfield 1055, 3, 0, 89, 0, 243), 51, 0), ((74, .iload_n 1, 1, 0, 0, 0, 0), 1, 1), ((75, .iload_n 2, 1, 0, 0, 0, 0), 1, 2), ((76, .lload_n 3, 1, 0, 0, 0, 0), 3, 3), ((77, .invokestatic 1042, 3, 26, 3, 0, 246), 57, 0)],
  [((80, .istore 9, 2, 0, 0, 0, 0), 6, 9), ((82, .aload_n 0, 1, 0, 0, 0, 0), 5, 0), ((83, .getfield 159, 3, 0, 83, 20, 57), 50, 0), ((86, .iload 8, 2, 0, 0, 0, 0), 0, 8), ((88, .iload_n 1, 1, 0, 0, 0, 0), 1, 1), ((89, .iastore, 1, 0, 0, 0, 0), 53, 0), ((90, .aload_n 0, 1, 0, 0, 0, 0), 5, 0), ((91, .getfield 147, 3, 0, 79, 20, 53), 50, 0), ((94, .iload 8, 2, 0, 0, 0, 0), 0, 8)],
  [((96, .iload_n 2, 1, 0, 0, 0, 0), 1, 2), ((97, .iastore, 1, 0, 0, 0, 0), 53, 0), ((98, .aload_n 0, 1, 0, 0, 0, 0), 5, 0), ((99, .getfield 150, 3, 0, 80, 20, 54), 50, 0), ((102, .iload 8, 2, 0, 0, 0, 0), 0, 8), ((104, .lload_n 3, 1, 0, 0, 0, 0), 3, 3), ((105, .lastore, 1, 0, 0, 0, 0), 58, 0), ((106, .aload_n 0, 1, 0, 0, 0, 0), 5, 0), ((107, .getfield 165, 3, 0, 85, 20, 59), 50, 0), ((110, .iload 8, 2, 0, 0, 0, 0), 0, 8)],
  [((112, .aload_n 0, 1, 0, 0, 0, 0), 5, 0), ((113, .getfield 168, 3, 0, 86, 20, 60), 50, 0), ((116, .iload 9, 2, 0, 0, 0, 0), 0, 9), ((118, .iaload, 1, 0, 0, 0, 0), 52, 0), ((119, .iastore, 1, 0, 0, 0, 0), 53, 0), ((120, .aload_n 0, 1, 0, 0, 0, 0), 5, 0), ((121, .getfield 168, 3, 0, 86, 20, 60), 50, 0), ((124, .iload 9, 2, 0, 0, 0, 0), 0, 9), ((126, .iload 8, 2, 0, 0, 0, 0), 0, 8)],
  [((128, .iastore, 1, 0, 0, 0, 0), 53, 0), ((129, .aload_n 0, 1, 0, 0, 0, 0), 5, 0), ((130, .getfield 162, 3, 0, 84, 20, 58), 50, 0), ((133, .iload 8, 2, 0, 0, 0, 0), 0, 8), ((135, .iconst (-1), 1, 4294967295, 0, 0, 0), 12, 0), ((136, .iastore, 1, 0, 0, 0, 0), 53, 0), ((137, .aload_n 0, 1, 0, 0, 0, 0), 5, 0), ((138, .getfield 131, 3, 0, 72, 20, 47), 50, 0), ((141, .iload_n 1, 1, 0, 0, 0, 0), 1, 1), ((142, .iaload, 1, 0, 0, 0, 0), 52, 0), ((143, .ifCond .ge 14, 3, 157, 0, 0, 0), 41, 0)],
  [((146, .aload_n 0, 1, 0, 0, 0, 0), 5, 0), ((147, .getfield 131, 3, 0, 72, 20, 47), 50, 0), ((150, .iload_n 1, 1, 0, 0, 0, 0), 1, 1), ((151, .iload 8, 2, 0, 0, 0, 0), 0, 8), ((153, .iastore, 1, 0, 0, 0, 0), 53, 0), ((154, .goto 16, 3, 170, 0, 0, 0), 37, 0), ((157, .aload_n 0, 1, 0, 0, 0, 0), 5, 0), ((158, .getfield 162, 3, 0, 84, 20, 58), 50, 0)],
  [((161, .aload_n 0, 1, 0, 0, 0, 0), 5, 0), ((162, .getfield 134, 3, 0, 73, 20, 48), 50, 0), ((165, .iload_n 1, 1, 0, 0, 0, 0), 1, 1), ((166, .iaload, 1, 0, 0, 0, 0), 52, 0), ((167, .iload 8, 2, 0, 0, 0, 0), 0, 8), ((169, .iastore, 1, 0, 0, 0, 0), 53, 0), ((170, .aload_n 0, 1, 0, 0, 0, 0), 5, 0), ((171, .getfield 134, 3, 0, 73, 20, 48), 50, 0), ((174, .iload_n 1, 1, 0, 0, 0, 0), 1, 1), ((175, .iload 8, 2, 0, 0, 0, 0), 0, 8)],
  [((177, .iastore, 1, 0, 0, 0, 0), 53, 0), ((178, .aload_n 0, 1, 0, 0, 0, 0), 5, 0), ((179, .getfield 153, 3, 0, 81, 20, 55), 50, 0), ((182, .iload 8, 2, 0, 0, 0, 0), 0, 8), ((184, .iload 5, 2, 0, 0, 0, 0), 0, 5), ((186, .iastore, 1, 0, 0, 0, 0), 53, 0), ((187, .aload_n 0, 1, 0, 0, 0, 0), 5, 0), ((188, .getfield 156, 3, 0, 82, 20, 56), 50, 0), ((191, .iload 8, 2, 0, 0, 0, 0), 0, 8)],
  [((193, .lload 6, 2, 0, 0, 0, 0), 2, 6), ((195, .lastore, 1, 0, 0, 0, 0), 58, 0), ((196, .iconst 1, 1, 1, 0, 0, 0), 12, 0), ((197, .ireturn, 1, 0, 0, 0, 0), 1000, 0)]])
def mo_mX12_placeOf : ev_MeK := (mo_yX12_placeOf, prog_14_method_123_code, 6, (some .int), [[((0, .aload_n 0, 1, 0, 0, 0, 0), 5, 0), ((1, .getfield 168, 3, 0, 86, 20, 60), 50, 0), ((4, .iload_n 1, 1, 0, 0, 0, 0), 1, 1), ((5, .iload_n 2, 1, 0, 0, 0, 0), 1, 2), ((6, .lload_n 3, 1, 0, 0, 0, 0), 3, 3), ((7, .invokestatic 1042, 3, 26, 3, 0, 246), 57, 0), ((10, .iaload, 1, 0, 0, 0, 0), 52, 0), ((11, .istore 5, 2, 0, 0, 0, 0), 6, 5), ((13, .iload 5, 2, 0, 0, 0, 0), 0, 5), ((15, .ifCond .lt 52, 3, 67, 0, 0, 0), 40, 0)],
  [((18, .aload_n 0, 1, 0, 0, 0, 0), 5, 0), ((19, .getfield 159, 3, 0, 83, 20, 57), 50, 0), ((22, .iload 5, 2, 0, 0, 0, 0), 0, 5), ((24, .iaload, 1, 0, 0, 0, 0), 52, 0), ((25, .iload_n 1, 1, 0, 0, 0, 0), 1, 1), ((26, .if_icmp .ne 29, 3, 55, 0, 0, 0), 45, 0), ((29, .aload_n 0, 1, 0, 0, 0, 0), 5, 0), ((30, .getfield 147, 3, 0, 79, 20, 53), 50, 0)],
  [((33, .iload 5, 2, 0, 0, 0, 0), 0, 5), ((35, .iaload, 1, 0, 0, 0, 0), 52, 0), ((36, .iload_n 2, 1, 0, 0, 0, 0), 1, 2), ((37, .if_icmp .ne 18, 3, 55, 0, 0, 0), 45, 0), ((40, .aload_n 0, 1, 0, 0, 0, 0), 5, 0), ((41, .getfield 150, 3, 0, 80, 20, 54), 50, 0), ((44, .iload 5, 2, 0, 0, 0, 0), 0, 5), ((46, .laload, 1, 0, 0, 0, 0), 58, 0), ((47, .lload_n 3, 1, 0, 0, 0, 0), 3, 3)],
  [((48, .lcmp, 1, 0, 0, 0, 0), 32, 0), ((49, .ifCond .ne 6, 3, 55, 0, 0, 0), 39, 0), ((52, .iload 5, 2, 0, 0, 0, 0), 0, 5), ((54, .ireturn, 1, 0, 0, 0, 0), 1000, 0), ((55, .aload_n 0, 1, 0, 0, 0, 0), 5, 0), ((56, .getfield 165, 3, 0, 85, 20, 59), 50, 0), ((59, .iload 5, 2, 0, 0, 0, 0), 0, 5), ((61, .iaload, 1, 0, 0, 0, 0), 52, 0), ((62, .istore 5, 2, 0, 0, 0, 0), 6, 5)],
  [((64, .goto (-51), 3, 13, 0, 0, 0), 37, 0), ((67, .iconst (-1), 1, 4294967295, 0, 0, 0), 12, 0), ((68, .ireturn, 1, 0, 0, 0, 0), 1000, 0)]])
def mo_mX12_keyHash : ev_MeK := (mo_yX12_keyHash, prog_14_method_122_code, 6, (some .int), [[((0, .lload_n 2, 1, 0, 0, 0, 0), 3, 2), ((1, .ldc2_w 1036, 3, 31, 0, 0, 247), 58, 0), ((4, .lmul, 1, 0, 0, 0, 0), 29, 0), ((5, .iload_n 1, 1, 0, 0, 0, 0), 1, 1), ((6, .i2l, 1, 0, 0, 0, 0), 26, 0), ((7, .ldc2_w 1038, 3, 7, 0, 0, 248), 58, 0), ((10, .lmul, 1, 0, 0, 0, 0), 29, 0), ((11, .ladd, 1, 0, 0, 0, 0), 27, 0), ((12, .iload_n 0, 1, 0, 0, 0, 0), 1, 0), ((13, .i2l, 1, 0, 0, 0, 0), 26, 0), ((14, .ldc2_w 1040, 3, 131, 0, 0, 249), 58, 0)],
  [((17, .lmul, 1, 0, 0, 0, 0), 29, 0), ((18, .ladd, 1, 0, 0, 0, 0), 27, 0), ((19, .lstore 4, 2, 0, 0, 0, 0), 8, 4), ((21, .lload 4, 2, 0, 0, 0, 0), 2, 4), ((23, .lload 4, 2, 0, 0, 0, 0), 2, 4), ((25, .bipush 17, 2, 17, 0, 0, 0), 13, 0), ((27, .lushr, 1, 0, 0, 0, 0), 34, 0), ((28, .lxor, 1, 0, 0, 0, 0), 31, 0), ((29, .lload 4, 2, 0, 0, 0, 0), 2, 4), ((31, .bipush 34, 2, 34, 0, 0, 0), 13, 0)],
  [((33, .lushr, 1, 0, 0, 0, 0), 34, 0), ((34, .lxor, 1, 0, 0, 0, 0), 31, 0), ((35, .l2i, 1, 0, 0, 0, 0), 33, 0), ((36, .sipush 4095, 3, 4095, 0, 0, 0), 14, 0), ((39, .iand, 1, 0, 0, 0, 0), 19, 0), ((40, .ireturn, 1, 0, 0, 0, 0), 1000, 0)]])
def mo_mX12_object : ev_MeK := (mo_yX12_object, prog_14_method_128_code, 2, (some .int), [[((0, .aload_n 0, 1, 0, 0, 0, 0), 5, 0), ((1, .getfield 1065, 3, 0, 77, 0, 250), 50, 0), ((4, .sipush 2000, 3, 2000, 0, 0, 0), 14, 0), ((7, .if_icmp .ne 10, 3, 17, 0, 0, 0), 45, 0), ((10, .aload_n 0, 1, 0, 0, 0, 0), 5, 0), ((11, .iconst 4, 1, 4, 0, 0, 0), 12, 0), ((12, .putfield 937, 3, 0, 143, 0, 244), 51, 0), ((15, .iconst 0, 1, 0, 0, 0, 0), 12, 0)],
  [((16, .ireturn, 1, 0, 0, 0, 0), 1000, 0), ((17, .aload_n 0, 1, 0, 0, 0, 0), 5, 0), ((18, .dup, 1, 0, 0, 0, 0), 35, 0), ((19, .getfield 1065, 3, 0, 77, 0, 250), 50, 0), ((22, .iconst 1, 1, 1, 0, 0, 0), 12, 0), ((23, .iadd, 1, 0, 0, 0, 0), 16, 0), ((24, .putfield 1065, 3, 0, 77, 0, 250), 51, 0), ((27, .aload_n 0, 1, 0, 0, 0, 0), 5, 0), ((28, .getfield 125, 3, 0, 70, 20, 45), 50, 0), ((31, .aload_n 0, 1, 0, 0, 0, 0), 5, 0)],
  [((32, .getfield 1065, 3, 0, 77, 0, 250), 50, 0), ((35, .iload_n 1, 1, 0, 0, 0, 0), 1, 1), ((36, .iastore, 1, 0, 0, 0, 0), 53, 0), ((37, .aload_n 0, 1, 0, 0, 0, 0), 5, 0), ((38, .getfield 128, 3, 0, 71, 20, 46), 50, 0), ((41, .aload_n 0, 1, 0, 0, 0, 0), 5, 0), ((42, .getfield 1065, 3, 0, 77, 0, 250), 50, 0), ((45, .iconst 0, 1, 0, 0, 0, 0), 12, 0), ((46, .iastore, 1, 0, 0, 0, 0), 53, 0), ((47, .aload_n 0, 1, 0, 0, 0, 0), 5, 0)],
  [((48, .getfield 131, 3, 0, 72, 20, 47), 50, 0), ((51, .aload_n 0, 1, 0, 0, 0, 0), 5, 0), ((52, .getfield 1065, 3, 0, 77, 0, 250), 50, 0), ((55, .iconst (-1), 1, 4294967295, 0, 0, 0), 12, 0), ((56, .iastore, 1, 0, 0, 0, 0), 53, 0), ((57, .aload_n 0, 1, 0, 0, 0, 0), 5, 0), ((58, .getfield 134, 3, 0, 73, 20, 48), 50, 0), ((61, .aload_n 0, 1, 0, 0, 0, 0), 5, 0), ((62, .getfield 1065, 3, 0, 77, 0, 250), 50, 0)],
  [((65, .iconst (-1), 1, 4294967295, 0, 0, 0), 12, 0), ((66, .iastore, 1, 0, 0, 0, 0), 53, 0), ((67, .aload_n 0, 1, 0, 0, 0, 0), 5, 0), ((68, .getfield 137, 3, 0, 74, 20, 49), 50, 0), ((71, .aload_n 0, 1, 0, 0, 0, 0), 5, 0), ((72, .getfield 1065, 3, 0, 77, 0, 250), 50, 0), ((75, .lconst 0, 1, 0, 0, 0, 0), 15, 0), ((76, .lastore, 1, 0, 0, 0, 0), 58, 0), ((77, .aload_n 0, 1, 0, 0, 0, 0), 5, 0), ((78, .getfield 1065, 3, 0, 77, 0, 250), 50, 0)],
  [((81, .ireturn, 1, 0, 0, 0, 0), 1000, 0)]])
def mo_mX12_how : ev_MeK := (mo_yX12_how, prog_14_method_145_code, 4, none, [[((0, .aload_n 0, 1, 0, 0, 0, 0), 5, 0), ((1, .iload_n 1, 1, 0, 0, 0, 0), 1, 1), ((2, .putfield 1093, 3, 0, 130, 0, 251), 51, 0), ((5, .aload_n 0, 1, 0, 0, 0, 0), 5, 0), ((6, .iload_n 2, 1, 0, 0, 0, 0), 1, 2), ((7, .putfield 1096, 3, 0, 131, 0, 252), 51, 0), ((10, .aload_n 0, 1, 0, 0, 0, 0), 5, 0), ((11, .iload_n 3, 1, 0, 0, 0, 0), 1, 3), ((12, .putfield 1033, 3, 0, 132, 0, 253), 51, 0), ((15, .return_, 1, 0, 0, 0, 0), 1000, 0)]])
def mo_mX12_openFrame : ev_MeK := (mo_yX12_openFrame, prog_14_method_149_code, 5, none, [[((0, .bipush 48, 2, 48, 0, 0, 0), 13, 0), ((2, .aload_n 0, 1, 0, 0, 0, 0), 5, 0), ((3, .getfield 1078, 3, 0, 111, 0, 236), 50, 0), ((6, .imul, 1, 0, 0, 0, 0), 18, 0), ((7, .aload_n 0, 1, 0, 0, 0, 0), 5, 0), ((8, .getfield 199, 3, 0, 101, 20, 71), 50, 0), ((11, .aload_n 0, 1, 0, 0, 0, 0), 5, 0), ((12, .getfield 1078, 3, 0, 111, 0, 236), 50, 0), ((15, .iaload, 1, 0, 0, 0, 0), 52, 0)],
  [((16, .iadd, 1, 0, 0, 0, 0), 16, 0), ((17, .istore_n 3, 1, 0, 0, 0, 0), 7, 3), ((18, .aload_n 0, 1, 0, 0, 0, 0), 5, 0), ((19, .getfield 199, 3, 0, 101, 20, 71), 50, 0), ((22, .aload_n 0, 1, 0, 0, 0, 0), 5, 0), ((23, .getfield 1078, 3, 0, 111, 0, 236), 50, 0), ((26, .dup2, 1, 0, 0, 0, 0), 58, 0), ((27, .iaload, 1, 0, 0, 0, 0), 52, 0), ((28, .iconst 1, 1, 1, 0, 0, 0), 12, 0), ((29, .iadd, 1, 0, 0, 0, 0), 16, 0), ((30, .iastore, 1, 0, 0, 0, 0), 53, 0), ((31, .aload_n 0, 1, 0, 0, 0, 0), 5, 0)],
  [((32, .getfield 208, 3, 0, 104, 20, 74), 50, 0), ((35, .aload_n 0, 1, 0, 0, 0, 0), 5, 0), ((36, .getfield 1078, 3, 0, 111, 0, 236), 50, 0), ((39, .dup2, 1, 0, 0, 0, 0), 58, 0), ((40, .iaload, 1, 0, 0, 0, 0), 52, 0), ((41, .iconst 1, 1, 1, 0, 0, 0), 12, 0), ((42, .iadd, 1, 0, 0, 0, 0), 16, 0), ((43, .iastore, 1, 0, 0, 0, 0), 53, 0), ((44, .aload_n 0, 1, 0, 0, 0, 0), 5, 0), ((45, .getfield 237, 3, 0, 115, 20, 85), 50, 0)],
  [((48, .iload_n 3, 1, 0, 0, 0, 0), 1, 3), ((49, .iconst 0, 1, 0, 0, 0, 0), 12, 0), ((50, .iastore, 1, 0, 0, 0, 0), 53, 0), ((51, .aload_n 0, 1, 0, 0, 0, 0), 5, 0), ((52, .getfield 240, 3, 0, 116, 20, 86), 50, 0), ((55, .iload_n 3, 1, 0, 0, 0, 0), 1, 3), ((56, .iload_n 1, 1, 0, 0, 0, 0), 1, 1), ((57, .iastore, 1, 0, 0, 0, 0), 53, 0), ((58, .aload_n 0, 1, 0, 0, 0, 0), 5, 0), ((59, .getfield 243, 3, 0, 117, 20, 87), 50, 0), ((62, .iload_n 3, 1, 0, 0, 0, 0), 1, 3), ((63, .iload_n 2, 1, 0, 0, 0, 0), 1, 2)],
  [((64, .iastore, 1, 0, 0, 0, 0), 53, 0), ((65, .aload_n 0, 1, 0, 0, 0, 0), 5, 0), ((66, .getfield 246, 3, 0, 118, 20, 88), 50, 0), ((69, .iload_n 3, 1, 0, 0, 0, 0), 1, 3), ((70, .aload_n 0, 1, 0, 0, 0, 0), 5, 0), ((71, .getfield 46, 3, 0, 26, 20, 18), 50, 0), ((74, .iload_n 1, 1, 0, 0, 0, 0), 1, 1), ((75, .iaload, 1, 0, 0, 0, 0), 52, 0), ((76, .iastore, 1, 0, 0, 0, 0), 53, 0), ((77, .aload_n 0, 1, 0, 0, 0, 0), 5, 0), ((78, .getfield 249, 3, 0, 119, 20, 89), 50, 0)],
  [((81, .iload_n 3, 1, 0, 0, 0, 0), 1, 3), ((82, .aload_n 0, 1, 0, 0, 0, 0), 5, 0), ((83, .getfield 1093, 3, 0, 130, 0, 251), 50, 0), ((86, .iastore, 1, 0, 0, 0, 0), 53, 0), ((87, .aload_n 0, 1, 0, 0, 0, 0), 5, 0), ((88, .getfield 252, 3, 0, 120, 20, 90), 50, 0), ((91, .iload_n 3, 1, 0, 0, 0, 0), 1, 3), ((92, .aload_n 0, 1, 0, 0, 0, 0), 5, 0), ((93, .getfield 1096, 3, 0, 131, 0, 252), 50, 0)],
  [((96, .iastore, 1, 0, 0, 0, 0), 53, 0), ((97, .aload_n 0, 1, 0, 0, 0, 0), 5, 0), ((98, .getfield 255, 3, 0, 121, 20, 91), 50, 0), ((101, .iload_n 3, 1, 0, 0, 0, 0), 1, 3), ((102, .aload_n 0, 1, 0, 0, 0, 0), 5, 0), ((103, .getfield 202, 3, 0, 102, 20, 72), 50, 0), ((106, .aload_n 0, 1, 0, 0, 0, 0), 5, 0), ((107, .getfield 1078, 3, 0, 111, 0, 236), 50, 0), ((110, .iaload, 1, 0, 0, 0, 0), 52, 0), ((111, .iastore, 1, 0, 0, 0, 0), 53, 0)],
  [((112, .aload_n 0, 1, 0, 0, 0, 0), 5, 0), ((113, .getfield 258, 3, 0, 122, 20, 92), 50, 0), ((116, .iload_n 3, 1, 0, 0, 0, 0), 1, 3), ((117, .aload_n 0, 1, 0, 0, 0, 0), 5, 0), ((118, .getfield 205, 3, 0, 103, 20, 73), 50, 0), ((121, .aload_n 0, 1, 0, 0, 0, 0), 5, 0), ((122, .getfield 1078, 3, 0, 111, 0, 236), 50, 0), ((125, .iaload, 1, 0, 0, 0, 0), 52, 0), ((126, .iastore, 1, 0, 0, 0, 0), 53, 0), ((127, .aload_n 0, 1, 0, 0, 0, 0), 5, 0)],
  [((128, .getfield 261, 3, 0, 123, 20, 93), 50, 0), ((131, .iload_n 3, 1, 0, 0, 0, 0), 1, 3), ((132, .iconst 0, 1, 0, 0, 0, 0), 12, 0), ((133, .iastore, 1, 0, 0, 0, 0), 53, 0), ((134, .iconst 0, 1, 0, 0, 0, 0), 12, 0), ((135, .istore 4, 2, 0, 0, 0, 0), 6, 4), ((137, .iload 4, 2, 0, 0, 0, 0), 0, 4), ((139, .bipush 50, 2, 50, 0, 0, 0), 13, 0), ((141, .if_icmp .ge 22, 3, 163, 0, 0, 0), 47, 0)],
  [((144, .aload_n 0, 1, 0, 0, 0, 0), 5, 0), ((145, .getfield 277, 3, 0, 128, 20, 99), 50, 0), ((148, .bipush 50, 2, 50, 0, 0, 0), 13, 0), ((150, .iload_n 3, 1, 0, 0, 0, 0), 1, 3), ((151, .imul, 1, 0, 0, 0, 0), 18, 0), ((152, .iload 4, 2, 0, 0, 0, 0), 0, 4), ((154, .iadd, 1, 0, 0, 0, 0), 16, 0), ((155, .iconst (-1), 1, 4294967295, 0, 0, 0), 12, 0), ((156, .iastore, 1, 0, 0, 0, 0), 53, 0), ((157, .iinc 4 1, 3, 1, 0, 0, 0), 36, 4)],
  [((160, .goto (-23), 3, 137, 0, 0, 0), 37, 0), ((163, .iconst 0, 1, 0, 0, 0, 0), 12, 0), ((164, .istore 4, 2, 0, 0, 0, 0), 6, 4), ((166, .iload 4, 2, 0, 0, 0, 0), 0, 4), ((168, .aload_n 0, 1, 0, 0, 0, 0), 5, 0), ((169, .getfield 49, 3, 0, 27, 20, 19), 50, 0), ((172, .iload_n 1, 1, 0, 0, 0, 0), 1, 1), ((173, .iaload, 1, 0, 0, 0, 0), 52, 0), ((174, .if_icmp .ge 57, 3, 231, 0, 0, 0), 47, 0)],
  [((177, .aload_n 0, 1, 0, 0, 0, 0), 5, 0), ((178, .getfield 277, 3, 0, 128, 20, 99), 50, 0), ((181, .bipush 50, 2, 50, 0, 0, 0), 13, 0), ((183, .iload_n 3, 1, 0, 0, 0, 0), 1, 3), ((184, .imul, 1, 0, 0, 0, 0), 18, 0), ((185, .iload 4, 2, 0, 0, 0, 0), 0, 4), ((187, .iadd, 1, 0, 0, 0, 0), 16, 0), ((188, .iload 4, 2, 0, 0, 0, 0), 0, 4), ((190, .aload_n 0, 1, 0, 0, 0, 0), 5, 0), ((191, .getfield 1090, 3, 0, 137, 0, 237), 50, 0)],
  [((194, .if_icmp .ge 24, 3, 218, 0, 0, 0), 47, 0), ((197, .aload_n 0, 1, 0, 0, 0, 0), 5, 0), ((198, .aload_n 0, 1, 0, 0, 0, 0), 5, 0), ((199, .getfield 280, 3, 0, 135, 20, 100), 50, 0), ((202, .iload 4, 2, 0, 0, 0, 0), 0, 4), ((204, .iaload, 1, 0, 0, 0, 0), 52, 0), ((205, .aload_n 0, 1, 0, 0, 0, 0), 5, 0), ((206, .getfield 283, 3, 0, 136, 20, 101), 50, 0)],
  [((209, .iload 4, 2, 0, 0, 0, 0), 0, 4), ((211, .laload, 1, 0, 0, 0, 0), 58, 0), ((215, .goto 9, 3, 224, 0, 0, 0), 37, 0), ((218, .aload_n 0, 1, 0, 0, 0, 0), 5, 0), ((219, .iconst 0, 1, 0, 0, 0, 0), 12, 0), ((220, .lconst 0, 1, 0, 0, 0, 0), 15, 0)],
  [((224, .iastore, 1, 0, 0, 0, 0), 53, 0), ((225, .iinc 4 1, 3, 1, 0, 0, 0), 36, 4), ((228, .goto (-62), 3, 166, 0, 0, 0), 37, 0), ((231, .aload_n 0, 1, 0, 0, 0, 0), 5, 0), ((232, .getfield 49, 3, 0, 27, 20, 19), 50, 0), ((235, .iload_n 1, 1, 0, 0, 0, 0), 1, 1), ((236, .iaload, 1, 0, 0, 0, 0), 52, 0), ((237, .istore 4, 2, 0, 0, 0, 0), 6, 4), ((239, .iload 4, 2, 0, 0, 0, 0), 0, 4)],
  [((241, .aload_n 0, 1, 0, 0, 0, 0), 5, 0), ((242, .getfield 1090, 3, 0, 137, 0, 237), 50, 0), ((245, .if_icmp .ge 46, 3, 291, 0, 0, 0), 47, 0), ((248, .aload_n 0, 1, 0, 0, 0, 0), 5, 0), ((249, .getfield 58, 3, 0, 30, 20, 23), 50, 0), ((252, .iload_n 1, 1, 0, 0, 0, 0), 1, 1), ((253, .baload, 1, 0, 0, 0, 0), 54, 0), ((254, .ifCond .eq 37, 3, 291, 0, 0, 0), 38, 0)],
  [((257, .aload_n 0, 1, 0, 0, 0, 0), 5, 0), ((258, .aload_n 0, 1, 0, 0, 0, 0), 5, 0), ((259, .getfield 280, 3, 0, 135, 20, 100), 50, 0), ((262, .iload 4, 2, 0, 0, 0, 0), 0, 4), ((264, .iaload, 1, 0, 0, 0, 0), 52, 0), ((265, .aload_n 0, 1, 0, 0, 0, 0), 5, 0), ((266, .getfield 283, 3, 0, 136, 20, 101), 50, 0), ((269, .iload 4, 2, 0, 0, 0, 0), 0, 4), ((271, .laload, 1, 0, 0, 0, 0), 58, 0)],
  [((275, .aload_n 0, 1, 0, 0, 0, 0), 5, 0), ((276, .getfield 261, 3, 0, 123, 20, 93), 50, 0), ((279, .iload_n 3, 1, 0, 0, 0, 0), 1, 3), ((280, .dup2, 1, 0, 0, 0, 0), 58, 0), ((281, .iaload, 1, 0, 0, 0, 0), 52, 0), ((282, .iconst 1, 1, 1, 0, 0, 0), 12, 0), ((283, .iadd, 1, 0, 0, 0, 0), 16, 0), ((284, .iastore, 1, 0, 0, 0, 0), 53, 0), ((285, .iinc 4 1, 3, 1, 0, 0, 0), 36, 4)],
  [((288, .goto (-49), 3, 239, 0, 0, 0), 37, 0), ((291, .return_, 1, 0, 0, 0, 0), 1000, 0)]])
def mo_mX12_forget : ev_MeK := (mo_yX12_forget, prog_14_method_236_code, 2, none, [[((0, .aload_n 0, 1, 0, 0, 0, 0), 5, 0), ((1, .aload_n 0, 1, 0, 0, 0, 0), 5, 0), ((2, .getfield 922, 3, 0, 15, 0, 205), 50, 0), ((5, .aload_n 0, 1, 0, 0, 0, 0), 5, 0), ((6, .getfield 925, 3, 0, 16, 0, 206), 50, 0), ((9, .invokevirtual 910, 3, 9, 3, 0, 199), 56, 0), ((12, .iconst 0, 1, 0, 0, 0, 0), 12, 0), ((13, .istore_n 1, 1, 0, 0, 0, 0), 7, 1), ((14, .iload_n 1, 1, 0, 0, 0, 0), 1, 1), ((15, .aload_n 0, 1, 0, 0, 0, 0), 5, 0)],
  [((16, .getfield 922, 3, 0, 15, 0, 205), 50, 0), ((19, .if_icmp .ge 35, 3, 54, 0, 0, 0), 47, 0), ((22, .aload_n 0, 1, 0, 0, 0, 0), 5, 0), ((23, .getfield 24, 3, 0, 11, 20, 10), 50, 0), ((26, .iload_n 1, 1, 0, 0, 0, 0), 1, 1), ((27, .aload_n 0, 1, 0, 0, 0, 0), 5, 0), ((28, .getfield 24, 3, 0, 11, 20, 10), 50, 0), ((31, .iload_n 1, 1, 0, 0, 0, 0), 1, 1)],
  [((32, .iaload, 1, 0, 0, 0, 0), 52, 0), ((33, .iconst 2, 1, 2, 0, 0, 0), 12, 0), ((34, .if_icmp .ne 7, 3, 41, 0, 0, 0), 45, 0), ((37, .iconst 0, 1, 0, 0, 0, 0), 12, 0), ((38, .goto 9, 3, 47, 0, 0, 0), 37, 0), ((41, .aload_n 0, 1, 0, 0, 0, 0), 5, 0), ((42, .getfield 24, 3, 0, 11, 20, 10), 50, 0), ((45, .iload_n 1, 1, 0, 0, 0, 0), 1, 1), ((46, .iaload, 1, 0, 0, 0, 0), 52, 0), ((47, .iastore, 1, 0, 0, 0, 0), 53, 0)],
  [((48, .iinc 1 1, 3, 1, 0, 0, 0), 36, 1), ((51, .goto (-37), 3, 14, 0, 0, 0), 37, 0), ((54, .aload_n 0, 1, 0, 0, 0, 0), 5, 0), ((55, .iconst 0, 1, 0, 0, 0, 0), 12, 0), ((56, .putfield 931, 3, 0, 17, 0, 254), 51, 0), ((59, .aload_n 0, 1, 0, 0, 0, 0), 5, 0), ((60, .iconst 0, 1, 0, 0, 0, 0), 12, 0), ((61, .putfield 934, 3, 0, 18, 0, 255), 51, 0)],
  [((64, .iconst 0, 1, 0, 0, 0, 0), 12, 0), ((65, .istore_n 1, 1, 0, 0, 0, 0), 7, 1), ((66, .iload_n 1, 1, 0, 0, 0, 0), 1, 1), ((67, .sipush 4096, 3, 4096, 0, 0, 0), 14, 0), ((70, .if_icmp .ge 16, 3, 86, 0, 0, 0), 47, 0), ((73, .aload_n 0, 1, 0, 0, 0, 0), 5, 0), ((74, .getfield 168, 3, 0, 86, 20, 60), 50, 0), ((77, .iload_n 1, 1, 0, 0, 0, 0), 1, 1), ((78, .iconst (-1), 1, 4294967295, 0, 0, 0), 12, 0), ((79, .iastore, 1, 0, 0, 0, 0), 53, 0)],
  [((80, .iinc 1 1, 3, 1, 0, 0, 0), 36, 1), ((83, .goto (-17), 3, 66, 0, 0, 0), 37, 0), ((86, .aload_n 0, 1, 0, 0, 0, 0), 5, 0), ((87, .iconst 0, 1, 0, 0, 0, 0), 12, 0), ((88, .putfield 1058, 3, 0, 88, 0, 245), 51, 0), ((91, .sipush 2999, 3, 2999, 0, 0, 0), 14, 0), ((94, .istore_n 1, 1, 0, 0, 0, 0), 7, 1), ((95, .iload_n 1, 1, 0, 0, 0, 0), 1, 1)],
  [((96, .ifCond .lt 29, 3, 125, 0, 0, 0), 40, 0), ((99, .aload_n 0, 1, 0, 0, 0, 0), 5, 0), ((100, .getfield 171, 3, 0, 87, 20, 61), 50, 0), ((103, .aload_n 0, 1, 0, 0, 0, 0), 5, 0), ((104, .getfield 1058, 3, 0, 88, 0, 245), 50, 0), ((107, .iload_n 1, 1, 0, 0, 0, 0), 1, 1), ((108, .iastore, 1, 0, 0, 0, 0), 53, 0), ((109, .aload_n 0, 1, 0, 0, 0, 0), 5, 0), ((110, .dup, 1, 0, 0, 0, 0), 35, 0), ((111, .getfield 1058, 3, 0, 88, 0, 245), 50, 0)],
  [((114, .iconst 1, 1, 1, 0, 0, 0), 12, 0), ((115, .iadd, 1, 0, 0, 0, 0), 16, 0), ((116, .putfield 1058, 3, 0, 88, 0, 245), 51, 0), ((119, .iinc 1 (-1), 3, 4294967295, 0, 0, 0), 36, 1), ((122, .goto (-27), 3, 95, 0, 0, 0), 37, 0), ((125, .aload_n 0, 1, 0, 0, 0, 0), 5, 0), ((126, .iconst 0, 1, 0, 0, 0, 0), 12, 0), ((127, .putfield 1055, 3, 0, 89, 0, 243), 51, 0)],
  [((130, .aload_n 0, 1, 0, 0, 0, 0), 5, 0), ((131, .iconst 0, 1, 0, 0, 0, 0), 12, 0), ((132, .putfield 1071, 3, 0, 96, 0, 256), 51, 0), ((135, .ldc_w 1077, 3, 94999, 0, 0, 257), 58, 0), ((138, .istore_n 1, 1, 0, 0, 0, 0), 7, 1), ((139, .iload_n 1, 1, 0, 0, 0, 0), 1, 1), ((140, .ifCond .lt 29, 3, 169, 0, 0, 0), 40, 0), ((143, .aload_n 0, 1, 0, 0, 0, 0), 5, 0)],
  [((144, .getfield 184, 3, 0, 95, 20, 66), 50, 0), ((147, .aload_n 0, 1, 0, 0, 0, 0), 5, 0), ((148, .getfield 1071, 3, 0, 96, 0, 256), 50, 0), ((151, .iload_n 1, 1, 0, 0, 0, 0), 1, 1), ((152, .iastore, 1, 0, 0, 0, 0), 53, 0), ((153, .aload_n 0, 1, 0, 0, 0, 0), 5, 0), ((154, .dup, 1, 0, 0, 0, 0), 35, 0), ((155, .getfield 1071, 3, 0, 96, 0, 256), 50, 0), ((158, .iconst 1, 1, 1, 0, 0, 0), 12, 0), ((159, .iadd, 1, 0, 0, 0, 0), 16, 0)],
  [((160, .putfield 1071, 3, 0, 96, 0, 256), 51, 0), ((163, .iinc 1 (-1), 3, 4294967295, 0, 0, 0), 36, 1), ((166, .goto (-27), 3, 139, 0, 0, 0), 37, 0), ((169, .aload_n 0, 1, 0, 0, 0, 0), 5, 0), ((170, .iconst 0, 1, 0, 0, 0, 0), 12, 0), ((171, .putfield 1065, 3, 0, 77, 0, 250), 51, 0), ((174, .aload_n 0, 1, 0, 0, 0, 0), 5, 0), ((175, .lconst 0, 1, 0, 0, 0, 0), 15, 0)],
  [((176, .putfield 1342, 3, 0, 78, 10, 258), 51, 0), ((179, .aload_n 0, 1, 0, 0, 0, 0), 5, 0), ((180, .iconst 0, 1, 0, 0, 0, 0), 12, 0), ((181, .putfield 1068, 3, 0, 110, 0, 259), 51, 0), ((184, .aload_n 0, 1, 0, 0, 0, 0), 5, 0), ((185, .iconst 0, 1, 0, 0, 0, 0), 12, 0), ((186, .putfield 1468, 3, 0, 152, 0, 260), 51, 0), ((189, .aload_n 0, 1, 0, 0, 0, 0), 5, 0), ((190, .iconst 0, 1, 0, 0, 0, 0), 12, 0), ((191, .putfield 1486, 3, 0, 153, 0, 261), 51, 0)],
  [((194, .aload_n 0, 1, 0, 0, 0, 0), 5, 0), ((195, .iconst 0, 1, 0, 0, 0, 0), 12, 0), ((196, .putfield 1324, 3, 0, 150, 0, 262), 51, 0), ((199, .aload_n 0, 1, 0, 0, 0, 0), 5, 0), ((200, .lconst 0, 1, 0, 0, 0, 0), 15, 0), ((201, .putfield 1233, 3, 0, 145, 10, 263), 51, 0), ((204, .aload_n 0, 1, 0, 0, 0, 0), 5, 0), ((205, .iconst 0, 1, 0, 0, 0, 0), 12, 0), ((206, .putfield 937, 3, 0, 143, 0, 244), 51, 0)],
  [((209, .aload_n 0, 1, 0, 0, 0, 0), 5, 0), ((210, .iconst 0, 1, 0, 0, 0, 0), 12, 0), ((211, .putfield 1167, 3, 0, 148, 0, 264), 51, 0), ((214, .return_, 1, 0, 0, 0, 0), 1000, 0)]])
def mo_mkK : List (ev_MeK × Nat) := [(mo_mX12_init, 2), (mo_mX12_internBuilt, 0), (mo_mX12_internTypes, 0), (mo_mX12_internNames, 0), (mo_mX12_hidden, 0), (mo_mX12_word, 0), (mo_mX12_intern, 0), (mo_mX12_hashOf, 0), (mo_mX12_compile, 0), (mo_mX12_forgetFrom, 0), (mo_mX12_readTokens, 0), (mo_mX12_skip, 0), (mo_mX12_at, 0), (mo_mX12_readText, 0), (mo_mX12_emit, 0), (mo_mX12_later, 0), (mo_mX12_goOn, 0), (mo_mX12_readBlock, 0), (mo_mX12_isWord, 0), (mo_mX12_beginsStatement, 0), (mo_mX12_isSign, 0), (mo_mX12_goOnStatement, 0), (mo_mX12_reload, 0), (mo_mX12_fill, 0), (mo_mX12_set, 0), (mo_mX12_placeOf, 0), (mo_mX12_keyHash, 1), (mo_mX12_object, 0), (mo_mX12_how, 0), (mo_mX12_openFrame, 0), (mo_mX12_forget, 0)]
def mo_mtK : List ev_MeK := mo_mkK.map Prod.fst
def mo_mk : List ev_Mk := mo_mkK.map (fun m => (ev_unM m.1, m.2))
def mo_more : List Jvm.Cond := [.methodLink mo_RX12 1 objectInit,
  .instanceMethod objectInit,
  .code objectInit ⟨#[0xb1]⟩ 1 none,
  .arrayClass .int,
  .fieldLink mo_RX12 7 "TableTongueModel" "text" "[I",
  .constant mo_RX12 13 (nI 40000),
  .arrayClass .byte,
  .fieldLink mo_RX12 14 "TableTongueModel" "pool" "[B",
  .fieldLink mo_RX12 18 "TableTongueModel" "nameAt" "[I",
  .fieldLink mo_RX12 21 "TableTongueModel" "nameLong" "[I",
  .fieldLink mo_RX12 24 "TableTongueModel" "nameSort" "[I",
  .fieldLink mo_RX12 27 "TableTongueModel" "nameNext" "[I",
  .fieldLink mo_RX12 30 "TableTongueModel" "nameHeads" "[I",
  .fieldLink mo_RX12 33 "TableTongueModel" "buffer" "[B",
  .fieldLink mo_RX12 36 "TableTongueModel" "tokenKind" "[I",
  .fieldLink mo_RX12 39 "TableTongueModel" "tokenAt" "[I",
  .arrayClass .long,
  .fieldLink mo_RX12 42 "TableTongueModel" "tokenValue" "[J",
  .fieldLink mo_RX12 46 "TableTongueModel" "protoStart" "[I",
  .fieldLink mo_RX12 49 "TableTongueModel" "protoParams" "[I",
  .fieldLink mo_RX12 52 "TableTongueModel" "protoLocals" "[I",
  .fieldLink mo_RX12 55 "TableTongueModel" "protoCaptured" "[I",
  .arrayClass .boolean,
  .fieldLink mo_RX12 58 "TableTongueModel" "protoDots" "[Z",
  .fieldLink mo_RX12 62 "TableTongueModel" "protoLine" "[I",
  .fieldLink mo_RX12 65 "TableTongueModel" "fromLocal" "[Z",
  .fieldLink mo_RX12 68 "TableTongueModel" "fromIndex" "[I",
  .fieldLink mo_RX12 71 "TableTongueModel" "op" "[I",
  .fieldLink mo_RX12 74 "TableTongueModel" "opA" "[I",
  .fieldLink mo_RX12 77 "TableTongueModel" "opB" "[I",
  .fieldLink mo_RX12 80 "TableTongueModel" "opLine" "[I",
  .fieldLink mo_RX12 83 "TableTongueModel" "wholes" "[J",
  .fieldLink mo_RX12 86 "TableTongueModel" "waitState" "[I",
  .fieldLink mo_RX12 89 "TableTongueModel" "waitA" "[I",
  .fieldLink mo_RX12 92 "TableTongueModel" "waitB" "[I",
  .fieldLink mo_RX12 95 "TableTongueModel" "waitC" "[I",
  .fieldLink mo_RX12 98 "TableTongueModel" "knownName" "[I",
  .fieldLink mo_RX12 101 "TableTongueModel" "knownSlot" "[I",
  .fieldLink mo_RX12 104 "TableTongueModel" "levelBase" "[I",
  .fieldLink mo_RX12 107 "TableTongueModel" "levelProto" "[I",
  .fieldLink mo_RX12 110 "TableTongueModel" "loopChain" "[I",
  .fieldLink mo_RX12 113 "TableTongueModel" "loopLevel" "[I",
  .fieldLink mo_RX12 116 "TableTongueModel" "placeSort" "[I",
  .fieldLink mo_RX12 119 "TableTongueModel" "placeArg" "[I",
  .fieldLink mo_RX12 122 "TableTongueModel" "placeLine" "[I",
  .fieldLink mo_RX12 125 "TableTongueModel" "objKind" "[I",
  .fieldLink mo_RX12 128 "TableTongueModel" "meta" "[I",
  .fieldLink mo_RX12 131 "TableTongueModel" "firstPlace" "[I",
  .fieldLink mo_RX12 134 "TableTongueModel" "lastPlace" "[I",
  .fieldLink mo_RX12 137 "TableTongueModel" "markTurn" "[J",
  .fieldLink mo_RX12 140 "TableTongueModel" "objData" "[I",
  .constant mo_RX12 143 (nI 60060),
  .fieldLink mo_RX12 144 "TableTongueModel" "objCells" "[I",
  .fieldLink mo_RX12 147 "TableTongueModel" "plKeyKind" "[I",
  .fieldLink mo_RX12 150 "TableTongueModel" "plKey" "[J",
  .fieldLink mo_RX12 153 "TableTongueModel" "plKind" "[I",
  .fieldLink mo_RX12 156 "TableTongueModel" "plValue" "[J",
  .fieldLink mo_RX12 159 "TableTongueModel" "plTable" "[I",
  .fieldLink mo_RX12 162 "TableTongueModel" "plNext" "[I",
  .fieldLink mo_RX12 165 "TableTongueModel" "plChain" "[I",
  .fieldLink mo_RX12 168 "TableTongueModel" "heads" "[I",
  .fieldLink mo_RX12 171 "TableTongueModel" "freePlaces" "[I",
  .constant mo_RX12 174 (nI 95000),
  .fieldLink mo_RX12 175 "TableTongueModel" "cellKind" "[I",
  .fieldLink mo_RX12 178 "TableTongueModel" "cellNumber" "[J",
  .fieldLink mo_RX12 181 "TableTongueModel" "cellMarked" "[Z",
  .fieldLink mo_RX12 184 "TableTongueModel" "freeCells" "[I",
  .fieldLink mo_RX12 187 "TableTongueModel" "partState" "[I",
  .fieldLink mo_RX12 190 "TableTongueModel" "partObject" "[I",
  .fieldLink mo_RX12 193 "TableTongueModel" "partKind" "[I",
  .fieldLink mo_RX12 196 "TableTongueModel" "partNumber" "[J",
  .fieldLink mo_RX12 199 "TableTongueModel" "frameMany" "[I",
  .fieldLink mo_RX12 202 "TableTongueModel" "heights" "[I",
  .fieldLink mo_RX12 205 "TableTongueModel" "markMany" "[I",
  .fieldLink mo_RX12 208 "TableTongueModel" "depths" "[I",
  .fieldLink mo_RX12 211 "TableTongueModel" "resumer" "[I",
  .fieldLink mo_RX12 214 "TableTongueModel" "goMode" "[I",
  .fieldLink mo_RX12 217 "TableTongueModel" "goWant" "[I",
  .fieldLink mo_RX12 220 "TableTongueModel" "stopMode" "[I",
  .fieldLink mo_RX12 223 "TableTongueModel" "stopWant" "[I",
  .constant mo_RX12 226 (nI 260000),
  .fieldLink mo_RX12 227 "TableTongueModel" "vKind" "[I",
  .fieldLink mo_RX12 230 "TableTongueModel" "vNumber" "[J",
  .constant mo_RX12 233 (nI 52000),
  .fieldLink mo_RX12 234 "TableTongueModel" "marks" "[I",
  .fieldLink mo_RX12 237 "TableTongueModel" "fType" "[I",
  .fieldLink mo_RX12 240 "TableTongueModel" "fProto" "[I",
  .fieldLink mo_RX12 243 "TableTongueModel" "fFunction" "[I",
  .fieldLink mo_RX12 246 "TableTongueModel" "fPc" "[I",
  .fieldLink mo_RX12 249 "TableTongueModel" "fMode" "[I",
  .fieldLink mo_RX12 252 "TableTongueModel" "fWant" "[I",
  .fieldLink mo_RX12 255 "TableTongueModel" "fBase" "[I",
  .fieldLink mo_RX12 258 "TableTongueModel" "fMarks" "[I",
  .fieldLink mo_RX12 261 "TableTongueModel" "fDots" "[I",
  .fieldLink mo_RX12 264 "TableTongueModel" "fLine" "[I",
  .fieldLink mo_RX12 267 "TableTongueModel" "fFrom" "[I",
  .fieldLink mo_RX12 270 "TableTongueModel" "fTo" "[I",
  .fieldLink mo_RX12 273 "TableTongueModel" "fGone" "[I",
  .constant mo_RX12 276 (nI 62400),
  .fieldLink mo_RX12 277 "TableTongueModel" "fCell" "[I",
  .fieldLink mo_RX12 280 "TableTongueModel" "argKind" "[I",
  .fieldLink mo_RX12 283 "TableTongueModel" "arg" "[J",
  .fieldLink mo_RX12 286 "TableTongueModel" "resKind" "[I",
  .fieldLink mo_RX12 289 "TableTongueModel" "res" "[J",
  .fieldLink mo_RX12 292 "TableTongueModel" "finalKind" "[I",
  .fieldLink mo_RX12 295 "TableTongueModel" "finalNumber" "[J",
  .fieldLink mo_RX12 298 "TableTongueModel" "output" "[B",
  .fieldLink mo_RX12 301 "TableTongueModel" "acts" "[I",
  .fieldLink mo_RX12 304 "TableTongueModel" "reached" "[Z",
  .fieldLink mo_RX12 307 "TableTongueModel" "partReached" "[Z",
  .fieldLink mo_RX12 310 "TableTongueModel" "queue" "[I",
  .fieldLink mo_RX12 313 "TableTongueModel" "byKey" "[I",
  .fieldLink mo_RX12 316 "TableTongueModel" "nextKey" "[I",
  .methodLink mo_RX12 319 mo_yX12_internBuilt,
  .fieldLink mo_RX12 322 "TableTongueModel" "nameMany" "I",
  .fieldLink mo_RX12 326 "TableTongueModel" "builtMany" "I",
  .fieldLink mo_RX12 329 "TableTongueModel" "poolEnd" "I",
  .fieldLink mo_RX12 332 "TableTongueModel" "builtPool" "I",
  .constantLong mo_RX12 352 (lN 26845029215790456),
  .methodLink mo_RX12 354 mo_yX12_hidden,
  .constantLong mo_RX12 358 (lN 6872332938464816740),
  .constantLong mo_RX12 360 (lN 25976),
  .constantLong mo_RX12 362 (lN 104863293860972),
  .constantLong mo_RX12 364 (lN 409622111332),
  .constantLong mo_RX12 366 (lN 409623295330),
  .constantLong mo_RX12 368 (lN 409622902124),
  .constantLong mo_RX12 370 (lN 104863394720118),
  .constantLong mo_RX12 372 (lN 409622900580),
  .constantLong mo_RX12 374 (lN 104863277084260),
  .constantLong mo_RX12 376 (lN 409622179698),
  .constantLong mo_RX12 378 (lN 104863278591858),
  .constantLong mo_RX12 380 (lN 409623292012),
  .constantLong mo_RX12 382 (lN 409623292018),
  .constantLong mo_RX12 384 (lN 409623424621),
  .constantLong mo_RX12 386 (lN 104863277936500),
  .constantLong mo_RX12 388 (lN 6872320886635192692),
  .constantLong mo_RX12 390 (lN 409622832494),
  .constantLong mo_RX12 392 (lN 1600087409),
  .constantLong mo_RX12 394 (lN 1600089204),
  .constantLong mo_RX12 396 (lN 1600089189),
  .constantLong mo_RX12 398 (lN 1600087907),
  .constantLong mo_RX12 400 (lN 104863462548581),
  .methodLink mo_RX12 402 mo_yX12_internTypes,
  .methodLink mo_RX12 405 mo_yX12_internNames,
  .constantLong mo_RX12 408 (lN 7235948),
  .constantLong mo_RX12 410 (lN 27707072068280686),
  .constantLong mo_RX12 412 (lN 121450625394034),
  .constantLong mo_RX12 414 (lN 126943972912743),
  .constantLong mo_RX12 416 (lN 499850046565),
  .constantLong mo_RX12 418 (lN 7382928537577680750),
  .constantLong mo_RX12 420 (lN 127991944667492),
  .constantLong mo_RX12 422 (lN 7234935),
  .constantLong mo_RX12 424 (lN 32497644298331492),
  .constantLong mo_RX12 426 (lN 32217264504270439),
  .constantLong mo_RX12 428 (lN 121424940196204),
  .constantLong mo_RX12 430 (lN 1684365668),
  .constantLong mo_RX12 432 (lN 7094703752064557426),
  .constantLong mo_RX12 434 (lN 116),
  .constantLong mo_RX12 436 (lN 7234295459109429618),
  .constantLong mo_RX12 438 (lN 110),
  .constantLong mo_RX12 440 (lN 482955849332),
  .constantLong mo_RX12 442 (lN 1954115685),
  .constantLong mo_RX12 444 (lN 8390051574787436135),
  .constantLong mo_RX12 446 (lN 8390046081439917426),
  .constantLong mo_RX12 448 (lN 1852143732),
  .constantLong mo_RX12 450 (lN 482670637683),
  .constantLong mo_RX12 452 (lN 115931391554163),
  .constantLong mo_RX12 454 (lN 125762940659060),
  .constantLong mo_RX12 456 (lN 125762941445492),
  .constantLong mo_RX12 458 (lN 8242000070643638636),
  .constantLong mo_RX12 460 (lN 125762940986734),
  .constantLong mo_RX12 462 (lN 7450489171756736884),
  .constantLong mo_RX12 464 (lN 1633840229),
  .constantLong mo_RX12 466 (lN 8315180300211872116),
  .constantLong mo_RX12 468 (lN 435711799154),
  .constantLong mo_RX12 470 (lN 482703666284),
  .constantLong mo_RX12 472 (lN 126879447475060),
  .constantLong mo_RX12 474 (lN 27988534160089972),
  .constantLong mo_RX12 476 (lN 1818850164),
  .constantLong mo_RX12 478 (lN 1952807028),
  .constantLong mo_RX12 480 (lN 1885434484),
  .constantLong mo_RX12 482 (lN 115923103347316),
  .constantLong mo_RX12 484 (lN 125779953284709),
  .constantLong mo_RX12 486 (lN 109330244526452),
  .constantLong mo_RX12 488 (lN 1885430635),
  .constantLong mo_RX12 490 (lN 129117192282987),
  .constantLong mo_RX12 492 (lN 7566690),
  .constantLong mo_RX12 494 (lN 1652126821),
  .constantLong mo_RX12 496 (lN 1667785074),
  .constantLong mo_RX12 498 (lN 7497072),
  .constantLong mo_RX12 500 (lN 26479),
  .constantLong mo_RX12 502 (lN 1937010544),
  .constantLong mo_RX12 504 (lN 495873782885),
  .fieldLink mo_RX12 338 "TableTongueModel" "built" "I",
  .methodLink mo_RX12 345 mo_yX12_word,
  .methodLink mo_RX12 349 mo_yX12_intern,
  .methodLink mo_RX12 341 mo_yX12_hashOf,
  .fieldLink mo_RX12 335 "TableTongueModel" "thrown" "I",
  .fieldLink mo_RX12 509 "TableTongueModel" "compiled" "Z",
  .methodLink mo_RX12 910 mo_yX12_forgetFrom,
  .fieldLink mo_RX12 618 "TableTongueModel" "faultCode" "I",
  .methodLink mo_RX12 913 mo_yX12_readTokens,
  .methodLink mo_RX12 916 mo_yX12_readText,
  .fieldLink mo_RX12 621 "TableTongueModel" "faultAt" "I",
  .fieldLink mo_RX12 919 "TableTongueModel" "faultLine" "I",
  .fieldLink mo_RX12 922 "TableTongueModel" "baseMany" "I",
  .fieldLink mo_RX12 925 "TableTongueModel" "basePool" "I",
  .methodLink mo_RX12 928 mo_yX12_reload,
  .fieldLink mo_RX12 784 "TableTongueModel" "protos" "I",
  .fieldLink mo_RX12 599 "TableTongueModel" "tokenMany" "I",
  .methodLink mo_RX12 602 mo_yX12_skip,
  .methodLink mo_RX12 517 mo_yX12_at,
  .fieldLink mo_RX12 572 "TableTongueModel" "readKind" "I",
  .fieldLink mo_RX12 575 "TableTongueModel" "readValue" "J",
  .fieldLink mo_RX12 565 "TableTongueModel" "readEnd" "I",
  .fieldLink mo_RX12 506 "TableTongueModel" "size" "I",
  .fieldLink mo_RX12 624 "TableTongueModel" "ti" "I",
  .fieldLink mo_RX12 654 "TableTongueModel" "waits" "I",
  .fieldLink mo_RX12 657 "TableTongueModel" "nest" "I",
  .fieldLink mo_RX12 666 "TableTongueModel" "known" "I",
  .fieldLink mo_RX12 660 "TableTongueModel" "level" "I",
  .fieldLink mo_RX12 726 "TableTongueModel" "loops" "I",
  .fieldLink mo_RX12 705 "TableTongueModel" "placeMany" "I",
  .fieldLink mo_RX12 651 "TableTongueModel" "words" "I",
  .fieldLink mo_RX12 758 "TableTongueModel" "wholeMany" "I",
  .methodLink mo_RX12 682 mo_yX12_emit,
  .methodLink mo_RX12 686 mo_yX12_later,
  .methodLink mo_RX12 907 mo_yX12_goOn,
  .methodLink mo_RX12 808 mo_yX12_readBlock,
  .methodLink mo_RX12 859 mo_yX12_goOnStatement,
  .methodLink mo_RX12 645 mo_yX12_isWord,
  .methodLink mo_RX12 696 mo_yX12_beginsStatement,
  .methodLink mo_RX12 635 mo_yX12_isSign,
  .methodLink mo_RX12 1489 mo_yX12_forget,
  .methodLink mo_RX12 1492 mo_yX12_fill,
  .methodLink mo_RX12 1223 mo_yX12_object,
  .fieldLink mo_RX12 1078 "TableTongueModel" "cur" "I",
  .fieldLink mo_RX12 1090 "TableTongueModel" "args" "I",
  .methodLink mo_RX12 1114 mo_yX12_how,
  .methodLink mo_RX12 1131 mo_yX12_openFrame,
  .fieldLink mo_RX12 1024 "TableTongueModel" "todo" "I",
  .methodLink mo_RX12 1124 mo_yX12_set,
  .methodLink mo_RX12 1046 mo_yX12_placeOf,
  .fieldLink mo_RX12 1055 "TableTongueModel" "placesMany" "I",
  .fieldLink mo_RX12 937 "TableTongueModel" "over" "I",
  .fieldLink mo_RX12 1058 "TableTongueModel" "freeMany" "I",
  .methodLink mo_RX12 1042 mo_yX12_keyHash,
  .constantLong mo_RX12 1036 (lN 31),
  .constantLong mo_RX12 1038 (lN 7),
  .constantLong mo_RX12 1040 (lN 131),
  .fieldLink mo_RX12 1065 "TableTongueModel" "made" "I",
  .fieldLink mo_RX12 1093 "TableTongueModel" "mode" "I",
  .fieldLink mo_RX12 1096 "TableTongueModel" "want" "I",
  .fieldLink mo_RX12 1033 "TableTongueModel" "line" "I",
  .fieldLink mo_RX12 931 "TableTongueModel" "madeStrings" "I",
  .fieldLink mo_RX12 934 "TableTongueModel" "madeBytes" "I",
  .fieldLink mo_RX12 1071 "TableTongueModel" "freeCellMany" "I",
  .constant mo_RX12 1077 (nI 94999),
  .fieldLink mo_RX12 1342 "TableTongueModel" "turns" "J",
  .fieldLink mo_RX12 1068 "TableTongueModel" "partMany" "I",
  .fieldLink mo_RX12 1468 "TableTongueModel" "actsTop" "I",
  .fieldLink mo_RX12 1486 "TableTongueModel" "actsCalled" "I",
  .fieldLink mo_RX12 1324 "TableTongueModel" "outMany" "I",
  .fieldLink mo_RX12 1233 "TableTongueModel" "steps" "J",
  .fieldLink mo_RX12 1167 "TableTongueModel" "finalMany" "I"]
