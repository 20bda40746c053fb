section
/-! The words by numbers. -/
def cn (i : Nat) : String := (bif Nat.blt i 8 then (bif Nat.blt i 4 then (bif Nat.blt i 2 then (bif Nat.blt i 1 then "PowersHouse$Articles" else "PowersHouse$Delegates") else (bif Nat.blt i 3 then "PowersHouse$OrdersBook" else "PowersHouse$OrdersReader")) else (bif Nat.blt i 6 then (bif Nat.blt i 5 then "PowersHouse$Papers" else "PowersHouse$Realm") else (bif Nat.blt i 7 then "PowersHouse$Ring" else "PowersHouse$Settlements"))) else (bif Nat.blt i 12 then (bif Nat.blt i 10 then (bif Nat.blt i 9 then "PowersHouse$Shares" else "PowersHouse$Spies") else (bif Nat.blt i 11 then "PowersHouse$Tape" else "PowersHouse")) else (bif Nat.blt i 14 then (bif Nat.blt i 13 then "PowersHouseModel" else "PowersHouseLaw") else (bif Nat.blt i 15 then "java/lang/Math" else "java/lang/Integer"))))
def dw : List Nat → Cond
  | [0, c, ix, a, b] => .fieldLink (cn c) ix ((cl_at a).2.1 b).1 ((cl_at a).2.1 b).2.1 ((cl_at a).2.1 b).2.2.1
  | [1, c, ix, j] => .methodLink (cn c) ix (my j)
  | [2, c, ix, j] => .methodLinkNest (cn c) ix (my j) "PowersHouse"
  | [3, c, ix, a] => .classLink (cn c) ix (cl_at a).1
  | [6, j] => .instanceMethod (my j)
  | [7, j] => .static (my j)
  | [8, c] => .initialized (cn c)
  | [9, j] => .selects (my j).cls (my j) (my j)
  | [10, j] => .code (my j) (mb j) (sm_mi j).2 (mr j)
  | _ => .tt
def de : List Nat ⊕ Cond → Cond
  | .inl c => dw c
  | .inr w => w
def ent_0 : List (List Nat ⊕ Cond) := [.inl [9, 157], .inl [9, 160], .inl [9, 162], .inl [9, 163], .inl [9, 164], .inl [9, 165], .inl [9, 48], .inl [9, 49], .inl [9, 50], .inl [9, 51], .inl [9, 52], .inl [9, 53], .inl [9, 55], .inl [9, 56], .inl [9, 57], .inl [9, 58], .inl [9, 59], .inl [9, 60], .inl [9, 61], .inl [9, 62], .inl [9, 23], .inl [9, 27], .inl [9, 28], .inl [9, 31], .inl [9, 32], .inl [9, 33], .inl [9, 34], .inl [9, 35], .inl [9, 36], .inl [9, 37], .inl [9, 38], .inl [9, 129], .inl [9, 130], .inl [9, 131], .inl [9, 132], .inl [9, 133], .inl [9, 134], .inl [9, 135], .inl [9, 146], .inl [9, 148], .inl [9, 136], .inl [9, 137], .inl [9, 140], .inl [9, 142], .inl [9, 120], .inl [9, 121], .inl [9, 122], .inl [9, 123], .inl [9, 124], .inl [9, 125], .inl [9, 9], .inl [9, 11], .inl [9, 12], .inl [9, 14], .inl [9, 15], .inl [9, 16], .inl [9, 17], .inr (Cond.selects "java/lang/Throwable" ⟨"java/lang/Throwable", "fillInStackTrace", "(I)Ljava/lang/Throwable;"⟩ ⟨"java/lang/Throwable", "fillInStackTrace", "(I)Ljava/lang/Throwable;"⟩), .inl [9, 212], .inl [9, 215], .inl [9, 216], .inl [9, 217], .inl [9, 223], .inl [9, 224], .inl [9, 226], .inl [9, 227], .inl [9, 228], .inl [9, 229], .inl [9, 230], .inl [9, 231], .inl [9, 232], .inl [9, 233], .inl [9, 234], .inl [9, 235], .inl [9, 236], .inl [9, 237], .inl [9, 238], .inl [9, 239], .inl [9, 240], .inl [9, 241], .inl [9, 242], .inl [9, 244], .inl [9, 245], .inl [9, 248], .inl [9, 252], .inl [9, 253], .inl [9, 254], .inl [9, 255], .inl [9, 256], .inl [9, 257], .inl [9, 258], .inl [9, 259], .inl [9, 261], .inl [9, 262], .inl [9, 264], .inl [9, 265], .inl [9, 266], .inl [9, 267], .inl [9, 272], .inl [9, 275], .inl [9, 276], .inl [9, 277], .inl [9, 278], .inl [9, 279], .inl [9, 280], .inl [9, 282], .inl [9, 283], .inl [9, 288], .inl [9, 289], .inl [9, 290], .inl [9, 293], .inl [9, 297], .inl [9, 299], .inl [9, 300], .inl [9, 301], .inl [9, 302], .inl [9, 303], .inl [9, 304], .inl [9, 309]]
def ent_1 : List (List Nat ⊕ Cond) := [.inl [8, 13], .inl [8, 11], .inl [8, 5], .inl [8, 10], .inl [8, 3], .inl [8, 2], .inl [8, 9], .inl [8, 4], .inl [8, 1], .inl [8, 8], .inl [8, 7], .inl [8, 6], .inl [8, 0], .inl [8, 12], .inl [8, 14], .inr (Jvm.Cond.initialized "java/lang/String"), .inr (Jvm.Cond.initialized "java/lang/StringLatin1"), .inr (Jvm.Cond.initialized "jdk/internal/util/Preconditions"), .inr (Jvm.Cond.initialized "java/lang/StringUTF16"), .inl [8, 15], .inr (Jvm.Cond.initialized "java/lang/Throwable"), .inr (Jvm.Cond.initialized "java/lang/Exception"), .inr (Jvm.Cond.initialized "java/lang/RuntimeException"), .inr (Jvm.Cond.initialized "java/lang/IndexOutOfBoundsException"), .inr (Jvm.Cond.initialized "java/util/NoSuchElementException"), .inl [3, 13, 8, 11], .inr (Jvm.Cond.instantiable "PowersHouse" (11 : Nat)), .inl [1, 13, 17, 166], .inl [6, 166], .inl [10, 166], .inr (Jvm.Cond.methodLink "PowersHouse" (5 : Nat) ({ cls := "java/lang/Object", name := "<init>", desc := "()V" } : Jvm.MethodName)), .inr (Jvm.Cond.instanceMethod ({ cls := "java/lang/Object", name := "<init>", desc := "()V" } : Jvm.MethodName)), .inr (Jvm.Cond.code ({ cls := "java/lang/Object", name := "<init>", desc := "()V" } : Jvm.MethodName) object_method_1_code (1 : Nat) (Option.none : Option Jvm.ClassFile.FieldType)), .inl [3, 11, 11, 5], .inr (Jvm.Cond.instantiable "PowersHouse$Realm" (17 : Nat)), .inl [1, 11, 13, 87], .inl [6, 87], .inl [10, 87], .inr (Jvm.Cond.methodLink "PowersHouse$Realm" (3 : Nat) ({ cls := "java/lang/Object", name := "<init>", desc := "()V" } : Jvm.MethodName)), .inl [0, 5, 9, 5, 0], .inl [0, 7, 103, 5, 0], .inl [0, 1, 198, 5, 0], .inl [0, 11, 334, 5, 0], .inl [0, 5, 15, 5, 1], .inl [0, 8, 37, 5, 1], .inl [0, 11, 337, 5, 1], .inl [0, 5, 18, 5, 2], .inl [0, 0, 108, 5, 2], .inl [0, 11, 247, 5, 2], .inl [0, 5, 21, 5, 3], .inl [0, 1, 34, 5, 3], .inl [0, 11, 179, 5, 3], .inl [0, 5, 24, 5, 4], .inl [0, 8, 32, 5, 4], .inl [0, 6, 29, 5, 4], .inl [0, 7, 76, 5, 4], .inl [0, 5, 27, 5, 5], .inl [0, 5, 31, 5, 6], .inl [0, 5, 34, 5, 7], .inl [0, 5, 37, 5, 8], .inl [0, 5, 40, 5, 9], .inl [0, 5, 43, 5, 10], .inl [0, 5, 46, 5, 11], .inl [0, 5, 49, 5, 12], .inl [0, 5, 52, 5, 13], .inl [0, 5, 55, 5, 14], .inl [0, 5, 58, 5, 15], .inl [0, 5, 61, 5, 16], .inr (Jvm.Cond.lays "PowersHouse$Realm" "PowersHouse$Realm" "landCount" "I"), .inr (Jvm.Cond.soleField "PowersHouse$Realm" "landCount"), .inr (Jvm.Cond.lays "PowersHouse$Realm" "PowersHouse$Realm" "stateCount" "I"), .inr (Jvm.Cond.soleField "PowersHouse$Realm" "stateCount"), .inr (Jvm.Cond.lays "PowersHouse$Realm" "PowersHouse$Realm" "present" "I"), .inr (Jvm.Cond.soleField "PowersHouse$Realm" "present"), .inr (Jvm.Cond.lays "PowersHouse$Realm" "PowersHouse$Realm" "today" "I"), .inr (Jvm.Cond.soleField "PowersHouse$Realm" "today"), .inr (Jvm.Cond.lays "PowersHouse$Realm" "PowersHouse$Realm" "changes" "I"), .inr (Jvm.Cond.soleField "PowersHouse$Realm" "changes"), .inr (Jvm.Cond.laysFinal "PowersHouse$Realm" "PowersHouse$Realm" "souls" "[I"), .inr (Jvm.Cond.soleField "PowersHouse$Realm" "souls"), .inr (Jvm.Cond.laysFinal "PowersHouse$Realm" "PowersHouse$Realm" "nearBits" "[I"), .inr (Jvm.Cond.soleField "PowersHouse$Realm" "nearBits"), .inr (Jvm.Cond.laysFinal "PowersHouse$Realm" "PowersHouse$Realm" "holder" "[I"), .inr (Jvm.Cond.soleField "PowersHouse$Realm" "holder"), .inr (Jvm.Cond.laysFinal "PowersHouse$Realm" "PowersHouse$Realm" "claims" "[I"), .inr (Jvm.Cond.soleField "PowersHouse$Realm" "claims"), .inr (Jvm.Cond.laysFinal "PowersHouse$Realm" "PowersHouse$Realm" "wayLength" "[I"), .inr (Jvm.Cond.soleField "PowersHouse$Realm" "wayLength"), .inr (Jvm.Cond.laysFinal "PowersHouse$Realm" "PowersHouse$Realm" "wayState" "[I"), .inr (Jvm.Cond.soleField "PowersHouse$Realm" "wayState"), .inr (Jvm.Cond.laysFinal "PowersHouse$Realm" "PowersHouse$Realm" "wayDay" "[I"), .inr (Jvm.Cond.soleField "PowersHouse$Realm" "wayDay"), .inr (Jvm.Cond.laysFinal "PowersHouse$Realm" "PowersHouse$Realm" "wayPaper" "[I"), .inr (Jvm.Cond.soleField "PowersHouse$Realm" "wayPaper"), .inr (Jvm.Cond.laysFinal "PowersHouse$Realm" "PowersHouse$Realm" "rank" "[I"), .inr (Jvm.Cond.soleField "PowersHouse$Realm" "rank"), .inr (Jvm.Cond.laysFinal "PowersHouse$Realm" "PowersHouse$Realm" "home" "[I"), .inr (Jvm.Cond.soleField "PowersHouse$Realm" "home"), .inr (Jvm.Cond.laysFinal "PowersHouse$Realm" "PowersHouse$Realm" "bounds" "[I"), .inr (Jvm.Cond.soleField "PowersHouse$Realm" "bounds"), .inr (Jvm.Cond.laysFinal "PowersHouse$Realm" "PowersHouse$Realm" "worths" "[I"), .inr (Jvm.Cond.soleField "PowersHouse$Realm" "worths"), .inr (Jvm.Cond.superclass "PowersHouse$Realm" "java/lang/Object"), .inr (Jvm.Cond.arrayClass Jvm.ClassFile.FieldType.int), .inl [3, 11, 18, 10], .inr (Jvm.Cond.instantiable "PowersHouse$Tape" (6 : Nat)), .inl [1, 11, 20, 153], .inl [6, 153], .inl [10, 153], .inr (Jvm.Cond.methodLink "PowersHouse$Tape" (3 : Nat) ({ cls := "java/lang/Object", name := "<init>", desc := "()V" } : Jvm.MethodName)), .inl [0, 10, 9, 10, 0], .inl [0, 11, 95, 10, 0], .inl [0, 10, 15, 10, 1], .inl [0, 3, 78, 10, 1], .inl [0, 10, 18, 10, 2], .inl [0, 3, 101, 10, 2], .inl [0, 10, 21, 10, 3], .inl [0, 10, 25, 10, 4], .inl [0, 10, 28, 10, 5], .inr (Jvm.Cond.lays "PowersHouse$Tape" "PowersHouse$Tape" "length" "I"), .inr (Jvm.Cond.soleField "PowersHouse$Tape" "length"), .inr (Jvm.Cond.lays "PowersHouse$Tape" "PowersHouse$Tape" "place" "I"), .inr (Jvm.Cond.soleField "PowersHouse$Tape" "place"), .inr (Jvm.Cond.lays "PowersHouse$Tape" "PowersHouse$Tape" "number" "I"), .inr (Jvm.Cond.soleField "PowersHouse$Tape" "number"), .inr (Jvm.Cond.laysFinal "PowersHouse$Tape" "PowersHouse$Tape" "bytes" "[B"), .inr (Jvm.Cond.soleField "PowersHouse$Tape" "bytes"), .inr (Jvm.Cond.lays "PowersHouse$Tape" "PowersHouse$Tape" "end" "I"), .inr (Jvm.Cond.soleField "PowersHouse$Tape" "end"), .inr (Jvm.Cond.lays "PowersHouse$Tape" "PowersHouse$Tape" "at" "I"), .inr (Jvm.Cond.soleField "PowersHouse$Tape" "at"), .inr (Jvm.Cond.superclass "PowersHouse$Tape" "java/lang/Object"), .inr (Jvm.Cond.arrayClass Jvm.ClassFile.FieldType.byte), .inl [3, 11, 25, 3], .inr (Jvm.Cond.instantiable "PowersHouse$OrdersReader" (14 : Nat)), .inl [1, 11, 27, 46], .inl [6, 46], .inl [10, 46], .inr (Jvm.Cond.methodLink "PowersHouse$OrdersReader" (3 : Nat) ({ cls := "java/lang/Object", name := "<init>", desc := "()V" } : Jvm.MethodName)), .inl [0, 3, 9, 3, 0], .inl [0, 11, 110, 3, 0], .inl [0, 3, 15, 3, 1], .inl [0, 11, 120, 3, 1], .inl [0, 3, 18, 3, 2], .inl [0, 2, 24, 3, 2], .inl [0, 11, 117, 3, 2], .inl [0, 3, 21, 3, 3], .inl [0, 3, 24, 3, 4], .inl [0, 2, 35, 3, 4], .inl [0, 3, 28, 3, 5], .inl [0, 2, 38, 3, 5], .inl [0, 3, 31, 3, 6], .inl [0, 2, 41, 3, 6], .inl [0, 3, 52, 3, 7], .inl [0, 3, 34, 3, 8], .inl [0, 3, 37, 3, 9], .inl [0, 3, 40, 3, 10], .inl [0, 3, 43, 3, 11], .inl [0, 3, 46, 3, 12], .inl [0, 3, 49, 3, 13], .inr (Jvm.Cond.lays "PowersHouse$OrdersReader" "PowersHouse$OrdersReader" "fault" "I"), .inr (Jvm.Cond.soleField "PowersHouse$OrdersReader" "fault"), .inr (Jvm.Cond.lays "PowersHouse$OrdersReader" "PowersHouse$OrdersReader" "faultPlace" "I"), .inr (Jvm.Cond.soleField "PowersHouse$OrdersReader" "faultPlace"), .inr (Jvm.Cond.lays "PowersHouse$OrdersReader" "PowersHouse$OrdersReader" "lines" "I"), .inr (Jvm.Cond.soleField "PowersHouse$OrdersReader" "lines"), .inr (Jvm.Cond.lays "PowersHouse$OrdersReader" "PowersHouse$OrdersReader" "size" "I"), .inr (Jvm.Cond.soleField "PowersHouse$OrdersReader" "size"), .inr (Jvm.Cond.laysFinal "PowersHouse$OrdersReader" "PowersHouse$OrdersReader" "code" "[I"), .inr (Jvm.Cond.soleField "PowersHouse$OrdersReader" "code"), .inr (Jvm.Cond.laysFinal "PowersHouse$OrdersReader" "PowersHouse$OrdersReader" "verb" "[I"), .inr (Jvm.Cond.soleField "PowersHouse$OrdersReader" "verb"), .inr (Jvm.Cond.laysFinal "PowersHouse$OrdersReader" "PowersHouse$OrdersReader" "lineEnd" "[I"), .inr (Jvm.Cond.soleField "PowersHouse$OrdersReader" "lineEnd"), .inr (Jvm.Cond.laysFinal "PowersHouse$OrdersReader" "PowersHouse$OrdersReader" "tape" "LPowersHouse$Tape;"), .inr (Jvm.Cond.soleField "PowersHouse$OrdersReader" "tape"), .inr (Jvm.Cond.laysFinal "PowersHouse$OrdersReader" "PowersHouse$OrdersReader" "waiting" "[I"), .inr (Jvm.Cond.soleField "PowersHouse$OrdersReader" "waiting"), .inr (Jvm.Cond.lays "PowersHouse$OrdersReader" "PowersHouse$OrdersReader" "waits" "I"), .inr (Jvm.Cond.soleField "PowersHouse$OrdersReader" "waits"), .inr (Jvm.Cond.lays "PowersHouse$OrdersReader" "PowersHouse$OrdersReader" "due" "I"), .inr (Jvm.Cond.soleField "PowersHouse$OrdersReader" "due"), .inr (Jvm.Cond.lays "PowersHouse$OrdersReader" "PowersHouse$OrdersReader" "knots" "I"), .inr (Jvm.Cond.soleField "PowersHouse$OrdersReader" "knots"), .inr (Jvm.Cond.lays "PowersHouse$OrdersReader" "PowersHouse$OrdersReader" "open" "I"), .inr (Jvm.Cond.soleField "PowersHouse$OrdersReader" "open"), .inr (Jvm.Cond.lays "PowersHouse$OrdersReader" "PowersHouse$OrdersReader" "compared" "I"), .inr (Jvm.Cond.soleField "PowersHouse$OrdersReader" "compared"), .inr (Jvm.Cond.superclass "PowersHouse$OrdersReader" "java/lang/Object"), .inl [3, 11, 34, 2], .inr (Jvm.Cond.instantiable "PowersHouse$OrdersBook" (4 : Nat)), .inl [1, 11, 36, 39], .inl [6, 39], .inl [10, 39], .inr (Jvm.Cond.methodLink "PowersHouse$OrdersBook" (3 : Nat) ({ cls := "java/lang/Object", name := "<init>", desc := "()V" } : Jvm.MethodName)), .inl [0, 2, 9, 2, 0], .inl [0, 2, 15, 2, 1], .inl [0, 2, 18, 2, 2], .inl [0, 2, 21, 2, 3], .inr (Jvm.Cond.laysFinal "PowersHouse$OrdersBook" "PowersHouse$OrdersBook" "lines" "[I"), .inr (Jvm.Cond.soleField "PowersHouse$OrdersBook" "lines"), .inr (Jvm.Cond.laysFinal "PowersHouse$OrdersBook" "PowersHouse$OrdersBook" "codes" "[I"), .inr (Jvm.Cond.soleField "PowersHouse$OrdersBook" "codes"), .inr (Jvm.Cond.laysFinal "PowersHouse$OrdersBook" "PowersHouse$OrdersBook" "verbs" "[I"), .inr (Jvm.Cond.soleField "PowersHouse$OrdersBook" "verbs"), .inr (Jvm.Cond.laysFinal "PowersHouse$OrdersBook" "PowersHouse$OrdersBook" "lineEnds" "[I"), .inr (Jvm.Cond.soleField "PowersHouse$OrdersBook" "lineEnds"), .inr (Jvm.Cond.superclass "PowersHouse$OrdersBook" "java/lang/Object"), .inl [3, 11, 41, 9], .inr (Jvm.Cond.instantiable "PowersHouse$Spies" (5 : Nat)), .inl [1, 11, 43, 150], .inl [6, 150], .inl [10, 150], .inr (Jvm.Cond.methodLink "PowersHouse$Spies" (3 : Nat) ({ cls := "java/lang/Object", name := "<init>", desc := "()V" } : Jvm.MethodName)), .inl [0, 9, 9, 9, 0], .inl [0, 11, 344, 9, 0], .inl [0, 9, 15, 9, 1], .inl [0, 9, 19, 9, 2], .inl [0, 9, 22, 9, 3], .inl [0, 9, 25, 9, 4], .inr (Jvm.Cond.lays "PowersHouse$Spies" "PowersHouse$Spies" "count" "I"), .inr (Jvm.Cond.soleField "PowersHouse$Spies" "count"), .inr (Jvm.Cond.laysFinal "PowersHouse$Spies" "PowersHouse$Spies" "owner" "[I"), .inr (Jvm.Cond.soleField "PowersHouse$Spies" "owner"), .inr (Jvm.Cond.laysFinal "PowersHouse$Spies" "PowersHouse$Spies" "victim" "[I"), .inr (Jvm.Cond.soleField "PowersHouse$Spies" "victim"), .inr (Jvm.Cond.laysFinal "PowersHouse$Spies" "PowersHouse$Spies" "firstDay" "[I"), .inr (Jvm.Cond.soleField "PowersHouse$Spies" "firstDay"), .inr (Jvm.Cond.laysFinal "PowersHouse$Spies" "PowersHouse$Spies" "lastDay" "[I"), .inr (Jvm.Cond.soleField "PowersHouse$Spies" "lastDay"), .inr (Jvm.Cond.superclass "PowersHouse$Spies" "java/lang/Object"), .inl [3, 11, 48, 4], .inr (Jvm.Cond.instantiable "PowersHouse$Papers" (14 : Nat)), .inl [1, 11, 50, 63], .inl [6, 63], .inl [10, 63], .inr (Jvm.Cond.methodLink "PowersHouse$Papers" (3 : Nat) ({ cls := "java/lang/Object", name := "<init>", desc := "()V" } : Jvm.MethodName)), .inl [0, 4, 9, 4, 0], .inl [0, 1, 39, 4, 0], .inl [0, 11, 340, 4, 0]]
def ent_2 : List (List Nat ⊕ Cond) := [.inl [0, 4, 15, 4, 1], .inl [0, 4, 19, 4, 2], .inl [0, 4, 22, 4, 3], .inl [0, 4, 25, 4, 4], .inl [0, 4, 28, 4, 5], .inl [0, 4, 31, 4, 6], .inl [0, 4, 34, 4, 7], .inl [0, 4, 37, 4, 8], .inl [0, 4, 40, 4, 9], .inl [0, 4, 43, 4, 10], .inl [0, 4, 46, 4, 11], .inl [0, 4, 49, 4, 12], .inl [0, 4, 52, 4, 13], .inr (Jvm.Cond.lays "PowersHouse$Papers" "PowersHouse$Papers" "count" "I"), .inr (Jvm.Cond.soleField "PowersHouse$Papers" "count"), .inr (Jvm.Cond.laysFinal "PowersHouse$Papers" "PowersHouse$Papers" "from" "[I"), .inr (Jvm.Cond.soleField "PowersHouse$Papers" "from"), .inr (Jvm.Cond.laysFinal "PowersHouse$Papers" "PowersHouse$Papers" "to" "[I"), .inr (Jvm.Cond.soleField "PowersHouse$Papers" "to"), .inr (Jvm.Cond.laysFinal "PowersHouse$Papers" "PowersHouse$Papers" "told" "[I"), .inr (Jvm.Cond.soleField "PowersHouse$Papers" "told"), .inr (Jvm.Cond.laysFinal "PowersHouse$Papers" "PowersHouse$Papers" "words" "[I"), .inr (Jvm.Cond.soleField "PowersHouse$Papers" "words"), .inr (Jvm.Cond.laysFinal "PowersHouse$Papers" "PowersHouse$Papers" "openers" "[I"), .inr (Jvm.Cond.soleField "PowersHouse$Papers" "openers"), .inr (Jvm.Cond.laysFinal "PowersHouse$Papers" "PowersHouse$Papers" "gives" "[I"), .inr (Jvm.Cond.soleField "PowersHouse$Papers" "gives"), .inr (Jvm.Cond.laysFinal "PowersHouse$Papers" "PowersHouse$Papers" "takes" "[I"), .inr (Jvm.Cond.soleField "PowersHouse$Papers" "takes"), .inr (Jvm.Cond.laysFinal "PowersHouse$Papers" "PowersHouse$Papers" "till" "[I"), .inr (Jvm.Cond.soleField "PowersHouse$Papers" "till"), .inr (Jvm.Cond.laysFinal "PowersHouse$Papers" "PowersHouse$Papers" "links" "[I"), .inr (Jvm.Cond.soleField "PowersHouse$Papers" "links"), .inr (Jvm.Cond.laysFinal "PowersHouse$Papers" "PowersHouse$Papers" "root" "[I"), .inr (Jvm.Cond.soleField "PowersHouse$Papers" "root"), .inr (Jvm.Cond.laysFinal "PowersHouse$Papers" "PowersHouse$Papers" "standing" "[I"), .inr (Jvm.Cond.soleField "PowersHouse$Papers" "standing"), .inr (Jvm.Cond.laysFinal "PowersHouse$Papers" "PowersHouse$Papers" "line" "[I"), .inr (Jvm.Cond.soleField "PowersHouse$Papers" "line"), .inr (Jvm.Cond.laysFinal "PowersHouse$Papers" "PowersHouse$Papers" "answer" "[I"), .inr (Jvm.Cond.soleField "PowersHouse$Papers" "answer"), .inr (Jvm.Cond.superclass "PowersHouse$Papers" "java/lang/Object"), .inl [3, 11, 55, 1], .inr (Jvm.Cond.instantiable "PowersHouse$Delegates" (6 : Nat)), .inl [1, 11, 57, 21], .inl [6, 21], .inl [10, 21], .inr (Jvm.Cond.methodLink "PowersHouse$Delegates" (3 : Nat) ({ cls := "java/lang/Object", name := "<init>", desc := "()V" } : Jvm.MethodName)), .inl [0, 1, 22, 1, 0], .inl [0, 1, 26, 1, 1], .inl [0, 1, 30, 1, 2], .inl [0, 1, 9, 1, 3], .inl [0, 1, 15, 1, 4], .inl [0, 1, 18, 1, 5], .inr (Jvm.Cond.laysFinal "PowersHouse$Delegates" "PowersHouse$Delegates" "realm" "LPowersHouse$Realm;"), .inr (Jvm.Cond.soleField "PowersHouse$Delegates" "realm"), .inr (Jvm.Cond.laysFinal "PowersHouse$Delegates" "PowersHouse$Delegates" "papers" "LPowersHouse$Papers;"), .inr (Jvm.Cond.soleField "PowersHouse$Delegates" "papers"), .inr (Jvm.Cond.laysFinal "PowersHouse$Delegates" "PowersHouse$Delegates" "book" "LPowersHouse$OrdersBook;"), .inr (Jvm.Cond.soleField "PowersHouse$Delegates" "book"), .inr (Jvm.Cond.laysFinal "PowersHouse$Delegates" "PowersHouse$Delegates" "view" "[J"), .inr (Jvm.Cond.soleField "PowersHouse$Delegates" "view"), .inr (Jvm.Cond.laysFinal "PowersHouse$Delegates" "PowersHouse$Delegates" "stack" "[J"), .inr (Jvm.Cond.soleField "PowersHouse$Delegates" "stack"), .inr (Jvm.Cond.lays "PowersHouse$Delegates" "PowersHouse$Delegates" "top" "I"), .inr (Jvm.Cond.soleField "PowersHouse$Delegates" "top"), .inr (Jvm.Cond.superclass "PowersHouse$Delegates" "java/lang/Object"), .inr (Jvm.Cond.arrayClass Jvm.ClassFile.FieldType.long), .inl [3, 11, 64, 8], .inr (Jvm.Cond.instantiable "PowersHouse$Shares" (6 : Nat)), .inl [1, 11, 66, 144], .inl [6, 144], .inl [10, 144], .inr (Jvm.Cond.methodLink "PowersHouse$Shares" (5 : Nat) ({ cls := "java/lang/Object", name := "<init>", desc := "()V" } : Jvm.MethodName)), .inl [0, 8, 28, 8, 0], .inl [0, 8, 11, 8, 1], .inl [0, 8, 15, 8, 2], .inl [0, 8, 18, 8, 3], .inl [0, 8, 22, 8, 4], .inl [0, 8, 25, 8, 5], .inr (Jvm.Cond.laysFinal "PowersHouse$Shares" "PowersHouse$Shares" "realm" "LPowersHouse$Realm;"), .inr (Jvm.Cond.soleField "PowersHouse$Shares" "realm"), .inr (Jvm.Cond.lays "PowersHouse$Shares" "PowersHouse$Shares" "madeAt" "I"), .inr (Jvm.Cond.soleField "PowersHouse$Shares" "madeAt"), .inr (Jvm.Cond.lays "PowersHouse$Shares" "PowersHouse$Shares" "rivals" "I"), .inr (Jvm.Cond.soleField "PowersHouse$Shares" "rivals"), .inr (Jvm.Cond.laysFinal "PowersHouse$Shares" "PowersHouse$Shares" "start" "[I"), .inr (Jvm.Cond.soleField "PowersHouse$Shares" "start"), .inr (Jvm.Cond.laysFinal "PowersHouse$Shares" "PowersHouse$Shares" "reach" "[I"), .inr (Jvm.Cond.soleField "PowersHouse$Shares" "reach"), .inr (Jvm.Cond.lays "PowersHouse$Shares" "PowersHouse$Shares" "most" "[I"), .inr (Jvm.Cond.soleField "PowersHouse$Shares" "most"), .inr (Jvm.Cond.superclass "PowersHouse$Shares" "java/lang/Object"), .inl [3, 11, 69, 7], .inr (Jvm.Cond.instantiable "PowersHouse$Settlements" (20 : Nat)), .inl [1, 11, 71, 127], .inl [6, 127], .inl [10, 127], .inr (Jvm.Cond.methodLink "PowersHouse$Settlements" (3 : Nat) ({ cls := "java/lang/Object", name := "<init>", desc := "()V" } : Jvm.MethodName)), .inl [0, 7, 68, 7, 0], .inl [0, 7, 72, 7, 1], .inl [0, 7, 9, 7, 2], .inl [0, 7, 15, 7, 3], .inl [0, 7, 18, 7, 4], .inl [0, 7, 21, 7, 5], .inl [0, 7, 24, 7, 6], .inl [0, 7, 28, 7, 7], .inl [0, 7, 31, 7, 8], .inl [0, 7, 34, 7, 9], .inl [0, 7, 37, 7, 10], .inl [0, 7, 40, 7, 11], .inl [0, 7, 43, 7, 12], .inl [0, 7, 46, 7, 13], .inl [0, 7, 49, 7, 14], .inl [0, 7, 52, 7, 15], .inl [0, 7, 55, 7, 16], .inl [0, 7, 59, 7, 17], .inl [0, 7, 62, 7, 18], .inl [0, 7, 65, 7, 19], .inr (Jvm.Cond.laysFinal "PowersHouse$Settlements" "PowersHouse$Settlements" "realm" "LPowersHouse$Realm;"), .inr (Jvm.Cond.soleField "PowersHouse$Settlements" "realm"), .inr (Jvm.Cond.laysFinal "PowersHouse$Settlements" "PowersHouse$Settlements" "shares" "LPowersHouse$Shares;"), .inr (Jvm.Cond.soleField "PowersHouse$Settlements" "shares"), .inr (Jvm.Cond.lays "PowersHouse$Settlements" "PowersHouse$Settlements" "states" "I"), .inr (Jvm.Cond.soleField "PowersHouse$Settlements" "states"), .inr (Jvm.Cond.lays "PowersHouse$Settlements" "PowersHouse$Settlements" "searchedStates" "I"), .inr (Jvm.Cond.soleField "PowersHouse$Settlements" "searchedStates"), .inr (Jvm.Cond.lays "PowersHouse$Settlements" "PowersHouse$Settlements" "searchedAt" "I"), .inr (Jvm.Cond.soleField "PowersHouse$Settlements" "searchedAt"), .inr (Jvm.Cond.lays "PowersHouse$Settlements" "PowersHouse$Settlements" "disputed" "I"), .inr (Jvm.Cond.soleField "PowersHouse$Settlements" "disputed"), .inr (Jvm.Cond.laysFinal "PowersHouse$Settlements" "PowersHouse$Settlements" "lands" "[I"), .inr (Jvm.Cond.soleField "PowersHouse$Settlements" "lands"), .inr (Jvm.Cond.laysFinal "PowersHouse$Settlements" "PowersHouse$Settlements" "claimants" "[I"), .inr (Jvm.Cond.soleField "PowersHouse$Settlements" "claimants"), .inr (Jvm.Cond.laysFinal "PowersHouse$Settlements" "PowersHouse$Settlements" "choice" "[I"), .inr (Jvm.Cond.soleField "PowersHouse$Settlements" "choice"), .inr (Jvm.Cond.laysFinal "PowersHouse$Settlements" "PowersHouse$Settlements" "gets" "[I"), .inr (Jvm.Cond.soleField "PowersHouse$Settlements" "gets"), .inr (Jvm.Cond.laysFinal "PowersHouse$Settlements" "PowersHouse$Settlements" "hasNow" "[I"), .inr (Jvm.Cond.soleField "PowersHouse$Settlements" "hasNow"), .inr (Jvm.Cond.laysFinal "PowersHouse$Settlements" "PowersHouse$Settlements" "bounds" "[I"), .inr (Jvm.Cond.soleField "PowersHouse$Settlements" "bounds"), .inr (Jvm.Cond.lays "PowersHouse$Settlements" "PowersHouse$Settlements" "kept" "I"), .inr (Jvm.Cond.soleField "PowersHouse$Settlements" "kept"), .inr (Jvm.Cond.lays "PowersHouse$Settlements" "PowersHouse$Settlements" "all" "I"), .inr (Jvm.Cond.soleField "PowersHouse$Settlements" "all"), .inr (Jvm.Cond.lays "PowersHouse$Settlements" "PowersHouse$Settlements" "fair" "I"), .inr (Jvm.Cond.soleField "PowersHouse$Settlements" "fair"), .inr (Jvm.Cond.lays "PowersHouse$Settlements" "PowersHouse$Settlements" "stable" "I"), .inr (Jvm.Cond.soleField "PowersHouse$Settlements" "stable"), .inr (Jvm.Cond.lays "PowersHouse$Settlements" "PowersHouse$Settlements" "keptSets" "J"), .inr (Jvm.Cond.soleField "PowersHouse$Settlements" "keptSets"), .inr (Jvm.Cond.lays "PowersHouse$Settlements" "PowersHouse$Settlements" "bestGain" "I"), .inr (Jvm.Cond.soleField "PowersHouse$Settlements" "bestGain"), .inr (Jvm.Cond.lays "PowersHouse$Settlements" "PowersHouse$Settlements" "bestSum" "I"), .inr (Jvm.Cond.soleField "PowersHouse$Settlements" "bestSum"), .inr (Jvm.Cond.laysFinal "PowersHouse$Settlements" "PowersHouse$Settlements" "bestChoice" "[I"), .inr (Jvm.Cond.soleField "PowersHouse$Settlements" "bestChoice"), .inr (Jvm.Cond.superclass "PowersHouse$Settlements" "java/lang/Object"), .inl [3, 11, 81, 6], .inr (Jvm.Cond.instantiable "PowersHouse$Ring" (5 : Nat)), .inl [1, 11, 83, 118], .inl [6, 118], .inl [10, 118], .inr (Jvm.Cond.methodLink "PowersHouse$Ring" (3 : Nat) ({ cls := "java/lang/Object", name := "<init>", desc := "()V" } : Jvm.MethodName)), .inl [0, 6, 25, 6, 0], .inl [0, 6, 9, 6, 1], .inl [0, 6, 15, 6, 2], .inl [0, 6, 18, 6, 3], .inl [0, 6, 22, 6, 4], .inr (Jvm.Cond.laysFinal "PowersHouse$Ring" "PowersHouse$Ring" "realm" "LPowersHouse$Realm;"), .inr (Jvm.Cond.soleField "PowersHouse$Ring" "realm"), .inr (Jvm.Cond.laysFinal "PowersHouse$Ring" "PowersHouse$Ring" "members" "[I"), .inr (Jvm.Cond.soleField "PowersHouse$Ring" "members"), .inr (Jvm.Cond.laysFinal "PowersHouse$Ring" "PowersHouse$Ring" "lands" "[I"), .inr (Jvm.Cond.soleField "PowersHouse$Ring" "lands"), .inr (Jvm.Cond.lays "PowersHouse$Ring" "PowersHouse$Ring" "length" "I"), .inr (Jvm.Cond.soleField "PowersHouse$Ring" "length"), .inr (Jvm.Cond.lays "PowersHouse$Ring" "PowersHouse$Ring" "foundAt" "I"), .inr (Jvm.Cond.soleField "PowersHouse$Ring" "foundAt"), .inr (Jvm.Cond.superclass "PowersHouse$Ring" "java/lang/Object"), .inl [3, 11, 88, 0], .inr (Jvm.Cond.instantiable "PowersHouse$Articles" (11 : Nat)), .inl [1, 11, 90, 0], .inl [6, 0], .inl [10, 0], .inr (Jvm.Cond.methodLink "PowersHouse$Articles" (3 : Nat) ({ cls := "java/lang/Object", name := "<init>", desc := "()V" } : Jvm.MethodName)), .inl [0, 0, 9, 0, 0], .inl [0, 11, 343, 0, 0], .inl [0, 0, 43, 0, 1], .inl [0, 0, 15, 0, 2], .inl [0, 0, 19, 0, 3], .inl [0, 0, 22, 0, 4], .inl [0, 0, 25, 0, 5], .inl [0, 0, 28, 0, 6], .inl [0, 0, 31, 0, 7], .inl [0, 0, 34, 0, 8], .inl [0, 0, 37, 0, 9], .inl [0, 0, 40, 0, 10], .inr (Jvm.Cond.lays "PowersHouse$Articles" "PowersHouse$Articles" "count" "I"), .inr (Jvm.Cond.soleField "PowersHouse$Articles" "count"), .inr (Jvm.Cond.laysFinal "PowersHouse$Articles" "PowersHouse$Articles" "realm" "LPowersHouse$Realm;"), .inr (Jvm.Cond.soleField "PowersHouse$Articles" "realm"), .inr (Jvm.Cond.laysFinal "PowersHouse$Articles" "PowersHouse$Articles" "lengths" "[I"), .inr (Jvm.Cond.soleField "PowersHouse$Articles" "lengths"), .inr (Jvm.Cond.laysFinal "PowersHouse$Articles" "PowersHouse$Articles" "words" "[I"), .inr (Jvm.Cond.soleField "PowersHouse$Articles" "words"), .inr (Jvm.Cond.laysFinal "PowersHouse$Articles" "PowersHouse$Articles" "hangsOn" "[I"), .inr (Jvm.Cond.soleField "PowersHouse$Articles" "hangsOn"), .inr (Jvm.Cond.laysFinal "PowersHouse$Articles" "PowersHouse$Articles" "reserves" "[I"), .inr (Jvm.Cond.soleField "PowersHouse$Articles" "reserves"), .inr (Jvm.Cond.laysFinal "PowersHouse$Articles" "PowersHouse$Articles" "left" "[I"), .inr (Jvm.Cond.soleField "PowersHouse$Articles" "left"), .inr (Jvm.Cond.laysFinal "PowersHouse$Articles" "PowersHouse$Articles" "right" "[I"), .inr (Jvm.Cond.soleField "PowersHouse$Articles" "right"), .inr (Jvm.Cond.laysFinal "PowersHouse$Articles" "PowersHouse$Articles" "steps" "[I"), .inr (Jvm.Cond.soleField "PowersHouse$Articles" "steps"), .inr (Jvm.Cond.laysFinal "PowersHouse$Articles" "PowersHouse$Articles" "sums" "[I"), .inr (Jvm.Cond.soleField "PowersHouse$Articles" "sums"), .inr (Jvm.Cond.laysFinal "PowersHouse$Articles" "PowersHouse$Articles" "held" "[I"), .inr (Jvm.Cond.soleField "PowersHouse$Articles" "held"), .inr (Jvm.Cond.superclass "PowersHouse$Articles" "java/lang/Object"), .inl [0, 11, 14, 11, 0], .inl [0, 11, 21, 11, 1], .inl [0, 11, 30, 11, 2], .inl [0, 11, 37, 11, 3], .inl [0, 11, 44, 11, 4], .inl [0, 11, 51, 11, 5], .inl [0, 11, 60, 11, 6], .inl [0, 11, 74, 11, 7], .inl [0, 11, 78, 11, 8], .inl [0, 11, 84, 11, 9], .inl [0, 11, 91, 11, 10], .inr (Jvm.Cond.laysFinal "PowersHouse" "PowersHouse" "realm" "LPowersHouse$Realm;"), .inr (Jvm.Cond.soleField "PowersHouse" "realm"), .inr (Jvm.Cond.laysFinal "PowersHouse" "PowersHouse" "tape" "LPowersHouse$Tape;"), .inr (Jvm.Cond.soleField "PowersHouse" "tape"), .inr (Jvm.Cond.laysFinal "PowersHouse" "PowersHouse" "reader" "LPowersHouse$OrdersReader;"), .inr (Jvm.Cond.soleField "PowersHouse" "reader")]
def ent_3 : List (List Nat ⊕ Cond) := [.inr (Jvm.Cond.laysFinal "PowersHouse" "PowersHouse" "book" "LPowersHouse$OrdersBook;"), .inr (Jvm.Cond.soleField "PowersHouse" "book"), .inr (Jvm.Cond.laysFinal "PowersHouse" "PowersHouse" "spies" "LPowersHouse$Spies;"), .inr (Jvm.Cond.soleField "PowersHouse" "spies"), .inr (Jvm.Cond.laysFinal "PowersHouse" "PowersHouse" "papers" "LPowersHouse$Papers;"), .inr (Jvm.Cond.soleField "PowersHouse" "papers"), .inr (Jvm.Cond.laysFinal "PowersHouse" "PowersHouse" "delegates" "LPowersHouse$Delegates;"), .inr (Jvm.Cond.soleField "PowersHouse" "delegates"), .inr (Jvm.Cond.laysFinal "PowersHouse" "PowersHouse" "settlements" "LPowersHouse$Settlements;"), .inr (Jvm.Cond.soleField "PowersHouse" "settlements"), .inr (Jvm.Cond.laysFinal "PowersHouse" "PowersHouse" "settlementsWithout" "LPowersHouse$Settlements;"), .inr (Jvm.Cond.soleField "PowersHouse" "settlementsWithout"), .inr (Jvm.Cond.laysFinal "PowersHouse" "PowersHouse" "ring" "LPowersHouse$Ring;"), .inr (Jvm.Cond.soleField "PowersHouse" "ring"), .inr (Jvm.Cond.laysFinal "PowersHouse" "PowersHouse" "articles" "LPowersHouse$Articles;"), .inr (Jvm.Cond.soleField "PowersHouse" "articles"), .inr (Jvm.Cond.superclass "PowersHouse" "java/lang/Object"), .inl [1, 13, 21, 167], .inl [6, 167], .inl [9, 167], .inl [10, 167], .inl [1, 11, 99, 154], .inl [6, 154], .inl [9, 154], .inl [10, 154], .inl [1, 13, 26, 168], .inl [6, 168], .inl [9, 168], .inl [10, 168], .inl [1, 11, 103, 88], .inl [6, 88], .inl [9, 88], .inl [10, 88], .inl [1, 11, 107, 47], .inl [6, 47], .inl [9, 47], .inl [10, 47], .inl [1, 3, 56, 155], .inl [6, 155], .inl [9, 155], .inl [10, 155], .inl [1, 10, 31, 312], .inl [7, 312], .inl [10, 312], .inl [1, 10, 37, 311], .inl [7, 311], .inl [10, 311], .inl [1, 3, 62, 156], .inl [6, 156], .inl [9, 156], .inl [10, 156], .inl [1, 10, 40, 157], .inr (Jvm.Cond.privateMethod ({ cls := "PowersHouse$Tape", name := "byteAt", desc := "(I)I" } : Jvm.MethodName)), .inl [6, 157], .inl [10, 157], .inl [1, 10, 44, 158], .inl [7, 158], .inl [10, 158], .inl [1, 10, 48, 159], .inl [7, 159], .inl [10, 159], .inl [1, 10, 51, 160], .inr (Jvm.Cond.privateMethod ({ cls := "PowersHouse$Tape", name := "readWord", desc := "()I" } : Jvm.MethodName)), .inl [6, 160], .inl [10, 160], .inr (Jvm.Cond.stringRef "PowersHouse$Tape" (64 : Nat) "take refuse ask home not and or gain got lost souls near mine bound rank other day left linked "), .inr (Jvm.Cond.methodLink "PowersHouse$Tape" (66 : Nat) ({ cls := "java/lang/String", name := "length", desc := "()I" } : Jvm.MethodName)), .inr (Jvm.Cond.instanceMethod ({ cls := "java/lang/String", name := "length", desc := "()I" } : Jvm.MethodName)), .inr (Jvm.Cond.selects "java/lang/String" ({ cls := "java/lang/String", name := "length", desc := "()I" } : Jvm.MethodName) ({ cls := "java/lang/String", name := "length", desc := "()I" } : Jvm.MethodName)), .inr (Jvm.Cond.code ({ cls := "java/lang/String", name := "length", desc := "()I" } : Jvm.MethodName) prog_20_method_54_code (1 : Nat) (Option.some Jvm.ClassFile.FieldType.int)), .inr (Jvm.Cond.methodLink "java/lang/String" (335 : Nat) ({ cls := "java/lang/String", name := "coder", desc := "()B" } : Jvm.MethodName)), .inr (Jvm.Cond.instanceMethod ({ cls := "java/lang/String", name := "coder", desc := "()B" } : Jvm.MethodName)), .inr (Jvm.Cond.selects "java/lang/String" ({ cls := "java/lang/String", name := "coder", desc := "()B" } : Jvm.MethodName) ({ cls := "java/lang/String", name := "coder", desc := "()B" } : Jvm.MethodName)), .inr (Jvm.Cond.code ({ cls := "java/lang/String", name := "coder", desc := "()B" } : Jvm.MethodName) prog_20_method_152_code (1 : Nat) (Option.some Jvm.ClassFile.FieldType.byte)), .inr (Jvm.Cond.fieldLink "java/lang/String" (38 : Nat) "java/lang/String" "COMPACT_STRINGS" "Z"), .inr (Jvm.Cond.laysStatic "java/lang/String" "COMPACT_STRINGS" "Z"), .inr (Jvm.Cond.methodLink "PowersHouse$Tape" (70 : Nat) ({ cls := "java/lang/String", name := "charAt", desc := "(I)C" } : Jvm.MethodName)), .inr (Jvm.Cond.instanceMethod ({ cls := "java/lang/String", name := "charAt", desc := "(I)C" } : Jvm.MethodName)), .inr (Jvm.Cond.selects "java/lang/String" ({ cls := "java/lang/String", name := "charAt", desc := "(I)C" } : Jvm.MethodName) ({ cls := "java/lang/String", name := "charAt", desc := "(I)C" } : Jvm.MethodName)), .inr (Jvm.Cond.code ({ cls := "java/lang/String", name := "charAt", desc := "(I)C" } : Jvm.MethodName) prog_20_method_56_code (2 : Nat) (Option.some Jvm.ClassFile.FieldType.char)), .inr (Jvm.Cond.methodLink "java/lang/String" (492 : Nat) ({ cls := "java/lang/String", name := "isLatin1", desc := "()Z" } : Jvm.MethodName)), .inr (Jvm.Cond.instanceMethod ({ cls := "java/lang/String", name := "isLatin1", desc := "()Z" } : Jvm.MethodName)), .inr (Jvm.Cond.selects "java/lang/String" ({ cls := "java/lang/String", name := "isLatin1", desc := "()Z" } : Jvm.MethodName) ({ cls := "java/lang/String", name := "isLatin1", desc := "()Z" } : Jvm.MethodName)), .inr (Jvm.Cond.code ({ cls := "java/lang/String", name := "isLatin1", desc := "()Z" } : Jvm.MethodName) prog_20_method_154_code (1 : Nat) (Option.some Jvm.ClassFile.FieldType.boolean)), .inr (Jvm.Cond.methodLink "java/lang/String" (495 : Nat) ({ cls := "java/lang/StringLatin1", name := "charAt", desc := "([BI)C" } : Jvm.MethodName)), .inr (Jvm.Cond.static ({ cls := "java/lang/StringLatin1", name := "charAt", desc := "([BI)C" } : Jvm.MethodName)), .inr (Jvm.Cond.code ({ cls := "java/lang/StringLatin1", name := "charAt", desc := "([BI)C" } : Jvm.MethodName) prog_21_method_2_code (2 : Nat) (Option.some Jvm.ClassFile.FieldType.char)), .inr (Jvm.Cond.methodLink "java/lang/StringLatin1" (9 : Nat) ({ cls := "java/lang/String", name := "checkIndex", desc := "(II)V" } : Jvm.MethodName)), .inr (Jvm.Cond.static ({ cls := "java/lang/String", name := "checkIndex", desc := "(II)V" } : Jvm.MethodName)), .inr (Jvm.Cond.code ({ cls := "java/lang/String", name := "checkIndex", desc := "(II)V" } : Jvm.MethodName) prog_20_method_155_code (2 : Nat) (Option.none : Option Jvm.ClassFile.FieldType)), .inr (Jvm.Cond.fieldLink "java/lang/String" (1053 : Nat) "jdk/internal/util/Preconditions" "SIOOBE_FORMATTER" "Ljava/util/function/BiFunction;"), .inr (Jvm.Cond.laysStatic "jdk/internal/util/Preconditions" "SIOOBE_FORMATTER" "Ljava/util/function/BiFunction;"), .inr (Jvm.Cond.methodLink "java/lang/String" (1059 : Nat) ({ cls := "jdk/internal/util/Preconditions", name := "checkIndex", desc := "(IILjava/util/function/BiFunction;)I" } : Jvm.MethodName)), .inr (Jvm.Cond.static ({ cls := "jdk/internal/util/Preconditions", name := "checkIndex", desc := "(IILjava/util/function/BiFunction;)I" } : Jvm.MethodName)), .inr (Jvm.Cond.code ({ cls := "jdk/internal/util/Preconditions", name := "checkIndex", desc := "(IILjava/util/function/BiFunction;)I" } : Jvm.MethodName) prog_25_method_11_code (3 : Nat) (Option.some Jvm.ClassFile.FieldType.int)), .inr (Jvm.Cond.methodLink "java/lang/String" (498 : Nat) ({ cls := "java/lang/StringUTF16", name := "charAt", desc := "([BI)C" } : Jvm.MethodName)), .inr (Jvm.Cond.static ({ cls := "java/lang/StringUTF16", name := "charAt", desc := "([BI)C" } : Jvm.MethodName)), .inr (Jvm.Cond.code ({ cls := "java/lang/StringUTF16", name := "charAt", desc := "([BI)C" } : Jvm.MethodName) prog_22_method_83_code (2 : Nat) (Option.some Jvm.ClassFile.FieldType.char)), .inr (Jvm.Cond.methodLink "java/lang/StringUTF16" (67 : Nat) ({ cls := "java/lang/StringUTF16", name := "checkIndex", desc := "(I[B)V" } : Jvm.MethodName)), .inr (Jvm.Cond.static ({ cls := "java/lang/StringUTF16", name := "checkIndex", desc := "(I[B)V" } : Jvm.MethodName)), .inr (Jvm.Cond.code ({ cls := "java/lang/StringUTF16", name := "checkIndex", desc := "(I[B)V" } : Jvm.MethodName) prog_22_method_91_code (2 : Nat) (Option.none : Option Jvm.ClassFile.FieldType)), .inr (Jvm.Cond.methodLink "java/lang/StringUTF16" (48 : Nat) ({ cls := "java/lang/StringUTF16", name := "length", desc := "([B)I" } : Jvm.MethodName)), .inr (Jvm.Cond.static ({ cls := "java/lang/StringUTF16", name := "length", desc := "([B)I" } : Jvm.MethodName)), .inr (Jvm.Cond.code ({ cls := "java/lang/StringUTF16", name := "length", desc := "([B)I" } : Jvm.MethodName) prog_22_method_6_code (1 : Nat) (Option.some Jvm.ClassFile.FieldType.int)), .inr (Jvm.Cond.methodLink "java/lang/StringUTF16" (414 : Nat) ({ cls := "java/lang/String", name := "checkIndex", desc := "(II)V" } : Jvm.MethodName)), .inr (Jvm.Cond.methodLink "java/lang/StringUTF16" (71 : Nat) ({ cls := "java/lang/StringUTF16", name := "getChar", desc := "([BI)C" } : Jvm.MethodName)), .inr (Jvm.Cond.static ({ cls := "java/lang/StringUTF16", name := "getChar", desc := "([BI)C" } : Jvm.MethodName)), .inr (Jvm.Cond.code ({ cls := "java/lang/StringUTF16", name := "getChar", desc := "([BI)C" } : Jvm.MethodName) prog_22_method_5_code (2 : Nat) (Option.some Jvm.ClassFile.FieldType.char)), .inr (Jvm.Cond.fieldLink "java/lang/StringUTF16" (44 : Nat) "java/lang/StringUTF16" "$assertionsDisabled" "Z"), .inr (Jvm.Cond.laysStatic "java/lang/StringUTF16" "$assertionsDisabled" "Z"), .inr (Jvm.Cond.fieldLink "java/lang/StringUTF16" (59 : Nat) "java/lang/StringUTF16" "HI_BYTE_SHIFT" "I"), .inr (Jvm.Cond.laysStatic "java/lang/StringUTF16" "HI_BYTE_SHIFT" "I"), .inr (Jvm.Cond.fieldLink "java/lang/StringUTF16" (63 : Nat) "java/lang/StringUTF16" "LO_BYTE_SHIFT" "I"), .inr (Jvm.Cond.laysStatic "java/lang/StringUTF16" "LO_BYTE_SHIFT" "I"), .inl [1, 10, 55, 161], .inl [7, 161], .inl [10, 161], .inl [1, 10, 58, 162], .inr (Jvm.Cond.privateMethod ({ cls := "PowersHouse$Tape", name := "readNumber", desc := "()I" } : Jvm.MethodName)), .inl [6, 162], .inl [10, 162], .inr (Jvm.Cond.constant "PowersHouse$Tape" (74 : Nat) (100000 : Int32)), .inl [1, 10, 61, 163], .inr (Jvm.Cond.privateMethod ({ cls := "PowersHouse$Tape", name := "readSign", desc := "(I)I" } : Jvm.MethodName)), .inl [6, 163], .inl [10, 163], .inl [1, 10, 75, 164], .inr (Jvm.Cond.privateMethod ({ cls := "PowersHouse$Tape", name := "readBehindLess", desc := "()I" } : Jvm.MethodName)), .inl [6, 164], .inl [10, 164], .inl [1, 10, 78, 165], .inr (Jvm.Cond.privateMethod ({ cls := "PowersHouse$Tape", name := "skipSign", desc := "(I)Z" } : Jvm.MethodName)), .inl [6, 165], .inl [10, 165], .inl [1, 3, 66, 48], .inr (Jvm.Cond.privateMethod ({ cls := "PowersHouse$OrdersReader", name := "acceptToken", desc := "(I)V" } : Jvm.MethodName)), .inl [6, 48], .inl [10, 48], .inl [1, 3, 69, 49], .inr (Jvm.Cond.privateMethod ({ cls := "PowersHouse$OrdersReader", name := "acceptVerb", desc := "(I)V" } : Jvm.MethodName)), .inl [6, 49], .inl [10, 49], .inl [1, 3, 81, 50], .inr (Jvm.Cond.privateMethod ({ cls := "PowersHouse$OrdersReader", name := "markFault", desc := "(I)V" } : Jvm.MethodName)), .inl [6, 50], .inl [10, 50], .inl [1, 3, 72, 51], .inr (Jvm.Cond.privateMethod ({ cls := "PowersHouse$OrdersReader", name := "acceptSign", desc := "(I)V" } : Jvm.MethodName)), .inl [6, 51], .inl [10, 51], .inl [1, 3, 108, 52], .inr (Jvm.Cond.privateMethod ({ cls := "PowersHouse$OrdersReader", name := "acceptBinary", desc := "(II)V" } : Jvm.MethodName)), .inl [6, 52], .inl [10, 52], .inl [1, 3, 87, 53], .inr (Jvm.Cond.privateMethod ({ cls := "PowersHouse$OrdersReader", name := "countKnot", desc := "()Z" } : Jvm.MethodName)), .inl [6, 53], .inl [10, 53], .inl [1, 3, 127, 54], .inl [7, 54], .inl [10, 54], .inl [1, 3, 115, 55], .inr (Jvm.Cond.privateMethod ({ cls := "PowersHouse$OrdersReader", name := "putCodesDownTo", desc := "(I)V" } : Jvm.MethodName)), .inl [6, 55], .inl [10, 55], .inl [1, 3, 91, 56], .inr (Jvm.Cond.privateMethod ({ cls := "PowersHouse$OrdersReader", name := "putCode", desc := "(I)V" } : Jvm.MethodName)), .inl [6, 56], .inl [10, 56], .inl [1, 3, 105, 57], .inr (Jvm.Cond.privateMethod ({ cls := "PowersHouse$OrdersReader", name := "putWaiting", desc := "(I)V" } : Jvm.MethodName)), .inl [6, 57], .inl [10, 57], .inl [2, 3, 111, 169], .inl [7, 169], .inl [10, 169], .inl [1, 3, 118, 311], .inl [1, 3, 124, 58], .inr (Jvm.Cond.privateMethod ({ cls := "PowersHouse$OrdersReader", name := "endLine", desc := "()V" } : Jvm.MethodName)), .inl [6, 58], .inl [10, 58], .inl [1, 3, 75, 59], .inr (Jvm.Cond.privateMethod ({ cls := "PowersHouse$OrdersReader", name := "acceptOperand", desc := "(I)V" } : Jvm.MethodName)), .inl [6, 59], .inl [10, 59], .inl [1, 3, 84, 60], .inr (Jvm.Cond.privateMethod ({ cls := "PowersHouse$OrdersReader", name := "acceptNumber", desc := "()V" } : Jvm.MethodName)), .inl [6, 60], .inl [10, 60], .inr (Jvm.Cond.constant "PowersHouse$OrdersReader" (104 : Nat) (99999 : Int32)), .inl [1, 3, 94, 61], .inr (Jvm.Cond.privateMethod ({ cls := "PowersHouse$OrdersReader", name := "openParenthesis", desc := "()V" } : Jvm.MethodName)), .inl [6, 61], .inl [10, 61], .inl [1, 3, 97, 62], .inr (Jvm.Cond.privateMethod ({ cls := "PowersHouse$OrdersReader", name := "acceptPrefix", desc := "(II)V" } : Jvm.MethodName)), .inl [6, 62], .inl [10, 62], .inl [1, 11, 113, 40], .inl [6, 40], .inl [9, 40], .inl [10, 40], .inl [1, 2, 29, 312], .inl [1, 13, 30, 170], .inl [6, 170], .inl [9, 170], .inl [10, 170], .inl [1, 13, 35, 171], .inl [6, 171], .inl [9, 171], .inl [10, 171], .inl [1, 11, 123, 89], .inl [6, 89], .inl [9, 89], .inl [10, 89], .inl [1, 13, 39, 172], .inl [6, 172], .inl [9, 172], .inl [10, 172], .inl [1, 11, 127, 90], .inl [6, 90], .inl [9, 90], .inl [10, 90], .inl [1, 11, 130, 91], .inl [6, 91], .inl [9, 91], .inl [10, 91], .inl [1, 5, 72, 90], .inl [2, 5, 68, 169], .inl [1, 11, 134, 92], .inl [6, 92], .inl [9, 92], .inl [10, 92], .inl [1, 13, 44, 173], .inl [6, 173], .inl [9, 173], .inl [10, 173], .inl [1, 11, 138, 93], .inl [6, 93], .inl [9, 93]]
def ent_4 : List (List Nat ⊕ Cond) := [.inl [10, 93], .inl [1, 13, 48, 174], .inl [6, 174], .inl [9, 174], .inl [10, 174], .inl [1, 11, 142, 94], .inl [6, 94], .inl [9, 94], .inl [10, 94], .inl [1, 5, 64, 88], .inl [1, 11, 145, 95], .inl [6, 95], .inl [9, 95], .inl [10, 95], .inl [1, 11, 148, 96], .inl [6, 96], .inl [9, 96], .inl [10, 96], .inl [1, 11, 151, 97], .inl [6, 97], .inl [9, 97], .inl [10, 97], .inl [1, 13, 52, 175], .inl [6, 175], .inl [9, 175], .inl [10, 175], .inl [1, 11, 155, 98], .inl [6, 98], .inl [9, 98], .inl [10, 98], .inl [1, 11, 158, 169], .inl [1, 11, 161, 314], .inl [7, 314], .inl [10, 314], .inr (Jvm.Cond.constant "java/lang/Integer" (265 : Nat) (1431655765 : Int32)), .inr (Jvm.Cond.constant "java/lang/Integer" (266 : Nat) (858993459 : Int32)), .inr (Jvm.Cond.constant "java/lang/Integer" (267 : Nat) (252645135 : Int32)), .inl [1, 11, 166, 99], .inl [6, 99], .inl [9, 99], .inl [10, 99], .inl [1, 13, 57, 176], .inl [6, 176], .inl [9, 176], .inl [10, 176], .inl [1, 11, 169, 100], .inl [6, 100], .inl [9, 100], .inl [10, 100], .inl [1, 13, 62, 177], .inl [6, 177], .inl [9, 177], .inl [10, 177], .inl [1, 11, 172, 101], .inl [6, 101], .inl [9, 101], .inl [10, 101], .inl [1, 13, 66, 178], .inl [6, 178], .inl [9, 178], .inl [10, 178], .inl [1, 11, 175, 102], .inl [6, 102], .inl [9, 102], .inl [10, 102], .inl [1, 11, 182, 64], .inl [6, 64], .inl [9, 64], .inl [10, 64], .inl [1, 11, 186, 65], .inl [6, 65], .inl [9, 65], .inl [10, 65], .inl [1, 4, 55, 66], .inl [6, 66], .inl [9, 66], .inl [10, 66], .inl [1, 11, 189, 67], .inl [6, 67], .inl [9, 67], .inl [10, 67], .inl [1, 4, 59, 64], .inl [1, 11, 193, 68], .inl [6, 68], .inl [9, 68], .inl [10, 68], .inl [1, 13, 71, 179], .inl [6, 179], .inl [9, 179], .inl [10, 179], .inl [1, 11, 197, 180], .inl [7, 180], .inl [10, 180], .inl [1, 11, 200, 151], .inl [6, 151], .inl [9, 151], .inl [10, 151], .inl [1, 11, 203, 69], .inl [6, 69], .inl [9, 69], .inl [10, 69], .inl [1, 13, 76, 181], .inl [6, 181], .inl [9, 181], .inl [10, 181], .inl [1, 11, 206, 152], .inl [6, 152], .inl [9, 152], .inl [10, 152], .inl [1, 13, 81, 182], .inl [6, 182], .inl [9, 182], .inl [10, 182], .inl [1, 11, 210, 22], .inl [6, 22], .inl [9, 22], .inl [10, 22], .inl [1, 1, 44, 70], .inl [6, 70], .inl [9, 70], .inl [10, 70], .inl [1, 1, 48, 23], .inr (Jvm.Cond.privateMethod ({ cls := "PowersHouse$Delegates", name := "answerOffer", desc := "(I)V" } : Jvm.MethodName)), .inl [6, 23], .inl [10, 23], .inl [1, 1, 55, 71], .inl [6, 71], .inl [9, 71], .inl [10, 71], .inl [1, 1, 58, 72], .inl [6, 72], .inl [9, 72], .inl [10, 72], .inl [1, 1, 61, 94], .inl [1, 1, 65, 73], .inl [6, 73], .inl [9, 73], .inl [10, 73], .inl [1, 1, 68, 74], .inl [6, 74], .inl [9, 74], .inl [10, 74], .inl [1, 1, 72, 24], .inl [6, 24], .inl [9, 24], .inl [10, 24], .inl [1, 1, 104, 41], .inl [6, 41], .inl [9, 41], .inl [10, 41], .inl [1, 1, 107, 25], .inl [6, 25], .inl [9, 25], .inl [10, 25], .inl [1, 1, 116, 75], .inl [6, 75], .inl [9, 75], .inl [10, 75], .inl [1, 1, 119, 76], .inl [6, 76], .inl [9, 76], .inl [10, 76], .inl [1, 1, 122, 103], .inl [6, 103], .inl [9, 103], .inl [10, 103], .inl [1, 5, 75, 104], .inl [6, 104], .inl [9, 104], .inl [10, 104], .inl [1, 1, 125, 105], .inl [6, 105], .inl [9, 105], .inl [10, 105], .inl [1, 1, 128, 106], .inl [6, 106], .inl [9, 106], .inl [10, 106], .inl [1, 1, 131, 107], .inl [6, 107], .inl [9, 107], .inl [10, 107], .inl [1, 1, 134, 108], .inl [6, 108], .inl [9, 108], .inl [10, 108], .inl [1, 1, 137, 109], .inl [6, 109], .inl [9, 109], .inl [10, 109], .inl [1, 1, 140, 77], .inl [6, 77], .inl [9, 77], .inl [10, 77], .inl [1, 1, 94, 42], .inl [6, 42], .inl [9, 42], .inl [10, 42], .inl [1, 2, 48, 43], .inl [6, 43], .inl [9, 43], .inl [10, 43], .inl [1, 2, 44, 41], .inl [1, 1, 110, 26], .inl [6, 26], .inl [9, 26], .inl [10, 26], .inl [1, 1, 143, 44], .inl [6, 44], .inl [9, 44], .inl [10, 44], .inl [1, 1, 146, 45], .inl [6, 45], .inl [9, 45], .inl [10, 45], .inl [1, 1, 149, 27], .inr (Jvm.Cond.privateMethod ({ cls := "PowersHouse$Delegates", name := "codeValue", desc := "(I)J" } : Jvm.MethodName)), .inl [6, 27], .inl [10, 27], .inl [1, 1, 157, 28], .inr (Jvm.Cond.privateMethod ({ cls := "PowersHouse$Delegates", name := "pop", desc := "()J" } : Jvm.MethodName)), .inl [6, 28], .inl [10, 28], .inl [1, 1, 161, 29], .inl [7, 29], .inl [10, 29], .inl [1, 1, 173, 313], .inl [7, 313], .inl [10, 313], .inr (Jvm.Cond.constantLong "PowersHouse$Delegates" (169 : Nat) (1000000000000 : Int64)), .inr (Jvm.Cond.constantLong "PowersHouse$Delegates" (114 : Nat) (-9223372036854775808 : Int64)), .inl [1, 1, 165, 30], .inl [7, 30], .inl [10, 30], .inr (Jvm.Cond.constantLong "PowersHouse$Delegates" (171 : Nat) (-1000000000000 : Int64)), .inl [1, 1, 153, 31], .inr (Jvm.Cond.privateMethod ({ cls := "PowersHouse$Delegates", name := "push", desc := "(J)V" } : Jvm.MethodName)), .inl [6, 31], .inl [10, 31], .inl [1, 1, 76, 32]]
def ent_5 : List (List Nat ⊕ Cond) := [.inr (Jvm.Cond.privateMethod ({ cls := "PowersHouse$Delegates", name := "followLine", desc := "(II)V" } : Jvm.MethodName)), .inl [6, 32], .inl [10, 32], .inl [1, 1, 85, 43], .inl [1, 1, 91, 78], .inl [6, 78], .inl [9, 78], .inl [10, 78], .inl [1, 1, 98, 110], .inl [6, 110], .inl [9, 110], .inl [10, 110], .inl [1, 1, 101, 79], .inl [6, 79], .inl [9, 79], .inl [10, 79], .inl [1, 1, 79, 80], .inl [6, 80], .inl [9, 80], .inl [10, 80], .inl [1, 1, 82, 33], .inr (Jvm.Cond.privateMethod ({ cls := "PowersHouse$Delegates", name := "followCourt", desc := "(II)V" } : Jvm.MethodName)), .inl [6, 33], .inl [10, 33], .inl [1, 1, 52, 34], .inr (Jvm.Cond.privateMethod ({ cls := "PowersHouse$Delegates", name := "endChain", desc := "(I)V" } : Jvm.MethodName)), .inl [6, 34], .inl [10, 34], .inl [1, 1, 179, 81], .inl [6, 81], .inl [9, 81], .inl [10, 81], .inl [1, 1, 182, 35], .inr (Jvm.Cond.privateMethod ({ cls := "PowersHouse$Delegates", name := "endAll", desc := "(II)V" } : Jvm.MethodName)), .inl [6, 35], .inl [10, 35], .inl [1, 1, 188, 82], .inl [6, 82], .inl [9, 82], .inl [10, 82], .inl [1, 4, 63, 70], .inl [1, 1, 185, 36], .inr (Jvm.Cond.privateMethod ({ cls := "PowersHouse$Delegates", name := "carryOut", desc := "(I)V" } : Jvm.MethodName)), .inl [6, 36], .inl [10, 36], .inl [1, 1, 191, 37], .inr (Jvm.Cond.privateMethod ({ cls := "PowersHouse$Delegates", name := "canCarryOut", desc := "(I)Z" } : Jvm.MethodName)), .inl [6, 37], .inl [10, 37], .inl [1, 1, 194, 38], .inr (Jvm.Cond.privateMethod ({ cls := "PowersHouse$Delegates", name := "handOver", desc := "(III)V" } : Jvm.MethodName)), .inl [6, 38], .inl [10, 38], .inl [2, 1, 201, 169], .inl [1, 1, 204, 97], .inl [1, 13, 85, 183], .inl [6, 183], .inl [9, 183], .inl [10, 183], .inl [1, 11, 213, 83], .inl [6, 83], .inl [9, 83], .inl [10, 83], .inl [1, 4, 80, 65], .inl [1, 13, 89, 184], .inl [6, 184], .inl [9, 184], .inl [10, 184], .inl [1, 11, 216, 24], .inl [1, 13, 93, 185], .inl [6, 185], .inl [9, 185], .inl [10, 185], .inl [1, 11, 220, 73], .inl [1, 11, 223, 43], .inr (Jvm.Cond.constantLong "PowersHouse" (226 : Nat) (-9223372036854775808 : Int64)), .inl [1, 11, 228, 25], .inl [1, 11, 231, 26], .inl [1, 13, 98, 186], .inl [6, 186], .inl [9, 186], .inl [10, 186], .inl [1, 11, 235, 66], .inl [1, 11, 238, 84], .inl [6, 84], .inl [9, 84], .inl [10, 84], .inl [2, 4, 83, 169], .inl [1, 13, 102, 187], .inl [6, 187], .inl [9, 187], .inl [10, 187], .inl [1, 11, 241, 85], .inl [6, 85], .inl [9, 85], .inl [10, 85], .inl [1, 4, 87, 84], .inl [1, 13, 106, 188], .inl [6, 188], .inl [9, 188], .inl [10, 188], .inl [1, 11, 244, 111], .inl [6, 111], .inl [9, 111], .inl [10, 111], .inl [1, 5, 79, 105], .inl [1, 5, 83, 103], .inl [1, 13, 110, 189], .inl [6, 189], .inl [9, 189], .inl [10, 189], .inl [1, 11, 250, 112], .inl [6, 112], .inl [9, 112], .inl [10, 112], .inl [1, 5, 101, 113], .inl [6, 113], .inl [9, 113], .inl [10, 113], .inl [1, 5, 93, 98], .inl [1, 5, 96, 314], .inl [1, 11, 253, 128], .inl [6, 128], .inl [9, 128], .inl [10, 128], .inl [1, 7, 81, 129], .inr (Jvm.Cond.privateMethod ({ cls := "PowersHouse$Settlements", name := "prepare", desc := "(I)V" } : Jvm.MethodName)), .inl [6, 129], .inl [10, 129], .inl [1, 7, 106, 113], .inl [1, 7, 110, 98], .inl [1, 7, 114, 105], .inl [1, 7, 117, 103], .inl [1, 7, 120, 108], .inl [1, 7, 123, 130], .inr (Jvm.Cond.privateMethod ({ cls := "PowersHouse$Settlements", name := "addToGets", desc := "(II)V" } : Jvm.MethodName)), .inl [6, 130], .inl [10, 130], .inl [1, 7, 85, 131], .inr (Jvm.Cond.privateMethod ({ cls := "PowersHouse$Settlements", name := "isSpent", desc := "()Z" } : Jvm.MethodName)), .inl [6, 131], .inl [10, 131], .inl [1, 7, 89, 132], .inr (Jvm.Cond.privateMethod ({ cls := "PowersHouse$Settlements", name := "nextClaimant", desc := "(II)I" } : Jvm.MethodName)), .inl [6, 132], .inl [10, 132], .inl [1, 7, 93, 133], .inr (Jvm.Cond.privateMethod ({ cls := "PowersHouse$Settlements", name := "choose", desc := "(II)V" } : Jvm.MethodName)), .inl [6, 133], .inl [10, 133], .inl [1, 7, 126, 104], .inl [1, 7, 97, 134], .inr (Jvm.Cond.privateMethod ({ cls := "PowersHouse$Settlements", name := "weigh", desc := "()V" } : Jvm.MethodName)), .inl [6, 134], .inl [10, 134], .inl [1, 7, 134, 135], .inr (Jvm.Cond.privateMethod ({ cls := "PowersHouse$Settlements", name := "isStable", desc := "()Z" } : Jvm.MethodName)), .inl [6, 135], .inl [10, 135], .inl [2, 7, 140, 169], .inl [1, 7, 143, 145], .inl [6, 145], .inl [9, 145], .inl [10, 145], .inl [1, 8, 40, 146], .inr (Jvm.Cond.privateMethod ({ cls := "PowersHouse$Shares", name := "fillRow", desc := "(III)I" } : Jvm.MethodName)), .inl [6, 146], .inl [10, 146], .inl [1, 8, 52, 147], .inl [7, 147], .inl [10, 147], .inl [1, 8, 56, 105], .inl [1, 8, 59, 103], .inl [2, 8, 62, 169], .inl [1, 8, 66, 104], .inl [1, 8, 69, 148], .inr (Jvm.Cond.privateMethod ({ cls := "PowersHouse$Shares", name := "addLand", desc := "(IIII)V" } : Jvm.MethodName)), .inl [6, 148], .inl [10, 148], .inl [1, 8, 73, 311], .inl [1, 8, 44, 111], .inl [1, 8, 48, 149], .inl [6, 149], .inl [9, 149], .inl [10, 149], .inl [1, 7, 149, 147], .inl [1, 7, 152, 149], .inl [1, 7, 137, 136], .inr (Jvm.Cond.privateMethod ({ cls := "PowersHouse$Settlements", name := "keepIfBetter", desc := "()V" } : Jvm.MethodName)), .inl [6, 136], .inl [10, 136], .inl [1, 7, 129, 312], .inl [1, 7, 100, 137], .inr (Jvm.Cond.privateMethod ({ cls := "PowersHouse$Settlements", name := "goOn", desc := "()Z" } : Jvm.MethodName)), .inl [6, 137], .inl [10, 137], .inl [1, 11, 256, 138], .inl [6, 138], .inl [9, 138], .inl [10, 138], .inl [1, 13, 114, 190], .inl [6, 190], .inl [9, 190], .inl [10, 190], .inl [1, 11, 259, 139], .inl [6, 139], .inl [9, 139], .inl [10, 139], .inl [1, 7, 156, 140], .inr (Jvm.Cond.privateMethod ({ cls := "PowersHouse$Settlements", name := "bestHolder", desc := "(I)I" } : Jvm.MethodName)), .inl [6, 140], .inl [10, 140], .inl [1, 7, 159, 95], .inl [1, 13, 118, 191], .inl [6, 191], .inl [9, 191], .inl [10, 191], .inl [1, 13, 122, 192], .inl [6, 192], .inl [9, 192], .inl [10, 192], .inl [1, 11, 262, 141], .inl [6, 141], .inl [9, 141], .inl [10, 141], .inl [1, 7, 162, 314], .inl [1, 7, 167, 142], .inr (Jvm.Cond.privateMethod ({ cls := "PowersHouse$Settlements", name := "canKeep", desc := "(I)Z" } : Jvm.MethodName)), .inl [6, 142], .inl [10, 142], .inl [1, 13, 127, 193], .inl [6, 193], .inl [9, 193], .inl [10, 193], .inl [1, 11, 265, 143], .inl [6, 143], .inl [9, 143], .inl [10, 143], .inl [1, 13, 131, 194], .inl [6, 194]]
def ent_6 : List (List Nat ⊕ Cond) := [.inl [9, 194], .inl [10, 194], .inl [1, 11, 268, 119], .inl [6, 119], .inl [9, 119], .inl [10, 119], .inl [1, 6, 34, 120], .inr (Jvm.Cond.privateMethod ({ cls := "PowersHouse$Ring", name := "findMembers", desc := "(I)Z" } : Jvm.MethodName)), .inl [6, 120], .inl [10, 120], .inr (Jvm.Cond.constant "PowersHouse$Ring" (38 : Nat) (100000 : Int32)), .inl [1, 6, 39, 121], .inr (Jvm.Cond.privateMethod ({ cls := "PowersHouse$Ring", name := "nextMember", desc := "(I)I" } : Jvm.MethodName)), .inl [6, 121], .inl [10, 121], .inl [1, 6, 46, 94], .inl [1, 6, 49, 122], .inr (Jvm.Cond.privateMethod ({ cls := "PowersHouse$Ring", name := "isMember", desc := "(II)Z" } : Jvm.MethodName)), .inl [6, 122], .inl [10, 122], .inl [1, 6, 43, 123], .inr (Jvm.Cond.privateMethod ({ cls := "PowersHouse$Ring", name := "findLands", desc := "(I)Z" } : Jvm.MethodName)), .inl [6, 123], .inl [10, 123], .inl [1, 6, 53, 124], .inr (Jvm.Cond.privateMethod ({ cls := "PowersHouse$Ring", name := "nextLand", desc := "(I)I" } : Jvm.MethodName)), .inl [6, 124], .inl [10, 124], .inl [1, 6, 60, 105], .inl [2, 6, 63, 169], .inl [1, 6, 56, 125], .inr (Jvm.Cond.privateMethod ({ cls := "PowersHouse$Ring", name := "gains", desc := "(III)Z" } : Jvm.MethodName)), .inl [6, 125], .inl [10, 125], .inl [1, 6, 66, 104], .inl [1, 11, 271, 126], .inl [6, 126], .inl [9, 126], .inl [10, 126], .inl [1, 13, 135, 195], .inl [6, 195], .inl [9, 195], .inl [10, 195], .inl [1, 11, 273, 1], .inl [6, 1], .inl [9, 1], .inl [10, 1], .inl [1, 13, 139, 196], .inl [6, 196], .inl [9, 196], .inl [10, 196], .inl [1, 11, 276, 2], .inl [6, 2], .inl [9, 2], .inl [10, 2], .inl [1, 11, 279, 3], .inl [6, 3], .inl [9, 3], .inl [10, 3], .inl [1, 0, 47, 2], .inl [1, 0, 51, 88], .inl [1, 11, 282, 4], .inl [6, 4], .inl [9, 4], .inl [10, 4], .inl [1, 13, 143, 197], .inl [6, 197], .inl [9, 197], .inl [10, 197], .inl [1, 11, 285, 5], .inl [6, 5], .inl [9, 5], .inl [10, 5], .inl [2, 0, 56, 169], .inl [1, 13, 147, 198], .inl [6, 198], .inl [9, 198], .inl [10, 198], .inl [1, 11, 289, 6], .inl [6, 6], .inl [9, 6], .inl [10, 6], .inl [1, 13, 151, 199], .inl [6, 199], .inl [9, 199], .inl [10, 199], .inl [1, 11, 292, 7], .inl [6, 7], .inl [9, 7], .inl [10, 7], .inl [1, 11, 295, 8], .inl [6, 8], .inl [9, 8], .inl [10, 8], .inl [1, 0, 70, 9], .inr (Jvm.Cond.privateMethod ({ cls := "PowersHouse$Articles", name := "wordAt", desc := "(III)I" } : Jvm.MethodName)), .inl [6, 9], .inl [10, 9], .inl [1, 0, 63, 7], .inl [1, 0, 74, 312], .inl [1, 13, 155, 200], .inl [6, 200], .inl [9, 200], .inl [10, 200], .inl [1, 11, 298, 10], .inl [6, 10], .inl [9, 10], .inl [10, 10], .inl [1, 0, 67, 11], .inr (Jvm.Cond.privateMethod ({ cls := "PowersHouse$Articles", name := "hasPresentDraft", desc := "(II)Z" } : Jvm.MethodName)), .inl [6, 11], .inl [10, 11], .inl [1, 0, 60, 94], .inl [1, 0, 79, 8], .inl [1, 0, 82, 12], .inr (Jvm.Cond.privateMethod ({ cls := "PowersHouse$Articles", name := "isBetterBase", desc := "(II)Z" } : Jvm.MethodName)), .inl [6, 12], .inl [10, 12], .inl [1, 0, 85, 109], .inl [1, 11, 301, 13], .inl [6, 13], .inl [9, 13], .inl [10, 13], .inl [1, 0, 105, 14], .inr (Jvm.Cond.privateMethod ({ cls := "PowersHouse$Articles", name := "isOpenByItself", desc := "(I)Z" } : Jvm.MethodName)), .inl [6, 14], .inl [10, 14], .inl [1, 0, 93, 10], .inl [1, 0, 96, 15], .inr (Jvm.Cond.privateMethod ({ cls := "PowersHouse$Articles", name := "countHeld", desc := "(II)V" } : Jvm.MethodName)), .inl [6, 15], .inl [10, 15], .inl [1, 0, 89, 16], .inr (Jvm.Cond.privateMethod ({ cls := "PowersHouse$Articles", name := "addHeld", desc := "(II)V" } : Jvm.MethodName)), .inl [6, 16], .inl [10, 16], .inl [1, 0, 99, 17], .inr (Jvm.Cond.privateMethod ({ cls := "PowersHouse$Articles", name := "presentDrafts", desc := "(I)I" } : Jvm.MethodName)), .inl [6, 17], .inl [10, 17], .inl [1, 0, 102, 18], .inl [7, 18], .inl [10, 18], .inl [1, 11, 304, 19], .inl [6, 19], .inl [9, 19], .inl [10, 19], .inl [1, 0, 111, 314], .inl [1, 13, 159, 201], .inl [6, 201], .inl [9, 201], .inl [10, 201], .inl [1, 11, 307, 20], .inl [6, 20], .inl [9, 20], .inl [10, 20], .inl [1, 13, 163, 202], .inl [6, 202], .inl [9, 202], .inl [10, 202], .inl [1, 11, 310, 114], .inl [6, 114], .inl [9, 114], .inl [10, 114], .inl [1, 11, 313, 86], .inl [6, 86], .inl [9, 86], .inl [10, 86], .inl [1, 4, 67, 82], .inl [1, 4, 70, 72], .inl [1, 4, 73, 73], .inl [1, 4, 76, 74], .inl [1, 13, 167, 203], .inl [6, 203], .inl [9, 203], .inl [10, 203], .inl [1, 11, 316, 115], .inl [6, 115], .inl [9, 115], .inl [10, 115], .inl [1, 13, 177, 204], .inl [6, 204], .inl [9, 204], .inl [10, 204], .inl [1, 11, 345, 116], .inl [6, 116], .inl [9, 116], .inl [10, 116], .inl [1, 5, 86, 102], .inl [1, 5, 90, 106], .inr (Jvm.Cond.methodLink "PowersHouseLaw" (171 : Nat) ({ cls := "PowersHouseLaw", name := "look", desc := "(LPowersHouse;II[J)I" } : Jvm.MethodName)), .inr (Jvm.Cond.static ({ cls := "PowersHouseLaw", name := "look", desc := "(LPowersHouse;II[J)I" } : Jvm.MethodName)), .inr (Jvm.Cond.codeWith ({ cls := "PowersHouseLaw", name := "look", desc := "(LPowersHouse;II[J)I" } : Jvm.MethodName) method_3_code (5 : Nat) (Option.some Jvm.ClassFile.FieldType.int) [((0 : Nat), (10 : Nat), (13 : Nat), (13 : Nat)), ((0 : Nat), (10 : Nat), (17 : Nat), (15 : Nat))]), .inr (Jvm.Cond.classLink "PowersHouseLaw" (13 : Nat) "java/lang/IndexOutOfBoundsException"), .inr (Jvm.Cond.classLink "PowersHouseLaw" (15 : Nat) "java/util/NoSuchElementException"), .inl [1, 13, 7, 205], .inl [6, 205], .inl [9, 205], .inl [10, 205], .inr (Jvm.Cond.classLink "PowersHouse" (319 : Nat) "java/lang/IndexOutOfBoundsException"), .inr (Jvm.Cond.instantiable "java/lang/IndexOutOfBoundsException" (6 : Nat)), .inr (Jvm.Cond.castable "java/lang/IndexOutOfBoundsException" "java/lang/IndexOutOfBoundsException"), .inr (Jvm.Cond.declares ({ cls := "java/lang/RuntimeException", name := "<init>", desc := "()V" } : Jvm.MethodName)), .inr (Jvm.Cond.declares ({ cls := "java/lang/RuntimeException", name := "<init>", desc := "(Ljava/lang/String;)V" } : Jvm.MethodName)), .inr (Jvm.Cond.declares ({ cls := "java/lang/Exception", name := "<init>", desc := "()V" } : Jvm.MethodName)), .inr (Jvm.Cond.declares ({ cls := "java/lang/Exception", name := "<init>", desc := "(Ljava/lang/String;)V" } : Jvm.MethodName)), .inr (Jvm.Cond.declares ({ cls := "java/lang/Throwable", name := "<init>", desc := "()V" } : Jvm.MethodName)), .inr (Jvm.Cond.declares ({ cls := "java/lang/Throwable", name := "<init>", desc := "(Ljava/lang/String;)V" } : Jvm.MethodName)), .inr (Jvm.Cond.selects "java/lang/IndexOutOfBoundsException" ({ cls := "java/lang/Throwable", name := "fillInStackTrace", desc := "(I)Ljava/lang/Throwable;" } : Jvm.MethodName) ({ cls := "java/lang/Throwable", name := "fillInStackTrace", desc := "(I)Ljava/lang/Throwable;" } : Jvm.MethodName)), .inr (Jvm.Cond.selects "java/lang/IndexOutOfBoundsException" ({ cls := "java/lang/Throwable", name := "fillInStackTrace", desc := "()Ljava/lang/Throwable;" } : Jvm.MethodName) ({ cls := "java/lang/Throwable", name := "fillInStackTrace", desc := "()Ljava/lang/Throwable;" } : Jvm.MethodName)), .inr (Jvm.Cond.lays "java/lang/IndexOutOfBoundsException" "java/lang/Throwable" "cause" "Ljava/lang/Throwable;"), .inr (Jvm.Cond.lays "java/lang/Throwable" "java/lang/Throwable" "cause" "Ljava/lang/Throwable;"), .inr (Jvm.Cond.lays "java/lang/IndexOutOfBoundsException" "java/lang/Throwable" "stackTrace" "[Ljava/lang/StackTraceElement;"), .inr (Jvm.Cond.lays "java/lang/Throwable" "java/lang/Throwable" "stackTrace" "[Ljava/lang/StackTraceElement;"), .inr (Jvm.Cond.lays "java/lang/IndexOutOfBoundsException" "java/lang/Throwable" "suppressedExceptions" "Ljava/util/List;"), .inr (Jvm.Cond.lays "java/lang/Throwable" "java/lang/Throwable" "suppressedExceptions" "Ljava/util/List;"), .inr (Jvm.Cond.lays "java/lang/IndexOutOfBoundsException" "java/lang/Throwable" "detailMessage" "Ljava/lang/String;"), .inr (Jvm.Cond.lays "java/lang/Throwable" "java/lang/Throwable" "detailMessage" "Ljava/lang/String;"), .inr (Jvm.Cond.lays "java/lang/IndexOutOfBoundsException" "java/lang/Throwable" "backtrace" "Ljava/lang/Object;"), .inr (Jvm.Cond.lays "java/lang/Throwable" "java/lang/Throwable" "backtrace" "Ljava/lang/Object;"), .inr (Jvm.Cond.fieldLink "java/lang/Throwable" (198 : Nat) "java/lang/Throwable" "backtrace" "Ljava/lang/Object;"), .inr (Jvm.Cond.superclass "java/lang/Throwable" "java/lang/Object"), .inr (Jvm.Cond.instanceMethod ({ cls := "java/lang/Throwable", name := "<init>", desc := "()V" } : Jvm.MethodName)), .inr (Jvm.Cond.code ({ cls := "java/lang/Throwable", name := "<init>", desc := "()V" } : Jvm.MethodName) prog_23_method_1_code (1 : Nat) (Option.none : Option Jvm.ClassFile.FieldType)), .inr (Jvm.Cond.methodLink "java/lang/Throwable" (1 : Nat) ({ cls := "java/lang/Object", name := "<init>", desc := "()V" } : Jvm.MethodName)), .inr (Jvm.Cond.fieldLink "java/lang/Throwable" (13 : Nat) "java/lang/Throwable" "UNASSIGNED_STACK" "[Ljava/lang/StackTraceElement;"), .inr (Jvm.Cond.laysStatic "java/lang/Throwable" "UNASSIGNED_STACK" "[Ljava/lang/StackTraceElement;"), .inr (Jvm.Cond.fieldLink "java/lang/Throwable" (20 : Nat) "java/lang/Throwable" "SUPPRESSED_SENTINEL" "Ljava/util/List;"), .inr (Jvm.Cond.laysStatic "java/lang/Throwable" "SUPPRESSED_SENTINEL" "Ljava/util/List;"), .inr (Jvm.Cond.methodLink "java/lang/Throwable" (27 : Nat) ({ cls := "java/lang/Throwable", name := "fillInStackTrace", desc := "()Ljava/lang/Throwable;" } : Jvm.MethodName)), .inr (Jvm.Cond.instanceMethod ({ cls := "java/lang/Throwable", name := "fillInStackTrace", desc := "()Ljava/lang/Throwable;" } : Jvm.MethodName)), .inr (Jvm.Cond.sameMethod "java/lang/Throwable" "java/lang/Throwable" "fillInStackTrace" "()Ljava/lang/Throwable;"), .inr (Jvm.Cond.selects "java/util/NoSuchElementException" ({ cls := "java/lang/Throwable", name := "fillInStackTrace", desc := "()Ljava/lang/Throwable;" } : Jvm.MethodName) ({ cls := "java/lang/Throwable", name := "fillInStackTrace", desc := "()Ljava/lang/Throwable;" } : Jvm.MethodName)), .inr (Jvm.Cond.codeSync ({ cls := "java/lang/Throwable", name := "fillInStackTrace", desc := "()Ljava/lang/Throwable;" } : Jvm.MethodName) prog_23_method_18_code (1 : Nat) (Option.some (Jvm.ClassFile.FieldType.object "java/lang/Throwable"))), .inr (Jvm.Cond.methodLink "java/lang/Throwable" (202 : Nat) ({ cls := "java/lang/Throwable", name := "fillInStackTrace", desc := "(I)Ljava/lang/Throwable;" } : Jvm.MethodName)), .inr (Jvm.Cond.privateMethod ({ cls := "java/lang/Throwable", name := "fillInStackTrace", desc := "(I)Ljava/lang/Throwable;" } : Jvm.MethodName)), .inr (Jvm.Cond.instanceMethod ({ cls := "java/lang/Throwable", name := "fillInStackTrace", desc := "(I)Ljava/lang/Throwable;" } : Jvm.MethodName)), .inr (Jvm.Cond.instantiable "java/lang/Throwable" (6 : Nat)), .inr (Jvm.Cond.native ({ cls := "java/lang/Throwable", name := "fillInStackTrace", desc := "(I)Ljava/lang/Throwable;" } : Jvm.MethodName)), .inr (Jvm.Cond.stringRef "PowersHouse" (321 : Nat) "no such land")]
def ent_7 : List (List Nat ⊕ Cond) := [.inr (Jvm.Cond.methodLink "PowersHouse" (323 : Nat) ({ cls := "java/lang/IndexOutOfBoundsException", name := "<init>", desc := "(Ljava/lang/String;)V" } : Jvm.MethodName)), .inr (Jvm.Cond.instanceMethod ({ cls := "java/lang/IndexOutOfBoundsException", name := "<init>", desc := "(Ljava/lang/String;)V" } : Jvm.MethodName)), .inr (Jvm.Cond.code ({ cls := "java/lang/IndexOutOfBoundsException", name := "<init>", desc := "(Ljava/lang/String;)V" } : Jvm.MethodName) prog_16_method_2_code (2 : Nat) (Option.none : Option Jvm.ClassFile.FieldType)), .inr (Jvm.Cond.methodLink "java/lang/IndexOutOfBoundsException" (7 : Nat) ({ cls := "java/lang/RuntimeException", name := "<init>", desc := "(Ljava/lang/String;)V" } : Jvm.MethodName)), .inr (Jvm.Cond.instanceMethod ({ cls := "java/lang/RuntimeException", name := "<init>", desc := "(Ljava/lang/String;)V" } : Jvm.MethodName)), .inr (Jvm.Cond.code ({ cls := "java/lang/RuntimeException", name := "<init>", desc := "(Ljava/lang/String;)V" } : Jvm.MethodName) prog_19_method_2_code (2 : Nat) (Option.none : Option Jvm.ClassFile.FieldType)), .inr (Jvm.Cond.methodLink "java/lang/RuntimeException" (7 : Nat) ({ cls := "java/lang/Exception", name := "<init>", desc := "(Ljava/lang/String;)V" } : Jvm.MethodName)), .inr (Jvm.Cond.instanceMethod ({ cls := "java/lang/Exception", name := "<init>", desc := "(Ljava/lang/String;)V" } : Jvm.MethodName)), .inr (Jvm.Cond.code ({ cls := "java/lang/Exception", name := "<init>", desc := "(Ljava/lang/String;)V" } : Jvm.MethodName) prog_15_method_2_code (2 : Nat) (Option.none : Option Jvm.ClassFile.FieldType)), .inr (Jvm.Cond.methodLink "java/lang/Exception" (7 : Nat) ({ cls := "java/lang/Throwable", name := "<init>", desc := "(Ljava/lang/String;)V" } : Jvm.MethodName)), .inr (Jvm.Cond.instanceMethod ({ cls := "java/lang/Throwable", name := "<init>", desc := "(Ljava/lang/String;)V" } : Jvm.MethodName)), .inr (Jvm.Cond.code ({ cls := "java/lang/Throwable", name := "<init>", desc := "(Ljava/lang/String;)V" } : Jvm.MethodName) prog_23_method_2_code (2 : Nat) (Option.none : Option Jvm.ClassFile.FieldType)), .inr (Jvm.Cond.fieldLink "java/lang/Throwable" (198 : Nat) "java/lang/Throwable" "backtrace" "Ljava/lang/Object;"), .inr (Jvm.Cond.fieldLink "java/lang/Throwable" (31 : Nat) "java/lang/Throwable" "detailMessage" "Ljava/lang/String;"), .inr (Jvm.Cond.fieldLink "java/lang/Throwable" (7 : Nat) "java/lang/Throwable" "cause" "Ljava/lang/Throwable;"), .inr (Jvm.Cond.fieldLink "java/lang/Throwable" (17 : Nat) "java/lang/Throwable" "stackTrace" "[Ljava/lang/StackTraceElement;"), .inr (Jvm.Cond.fieldLink "java/lang/Throwable" (24 : Nat) "java/lang/Throwable" "suppressedExceptions" "Ljava/util/List;"), .inr (Jvm.Cond.soleField "java/lang/Throwable" "backtrace"), .inr (Jvm.Cond.soleField "java/lang/Throwable" "detailMessage"), .inr (Jvm.Cond.soleField "java/lang/Throwable" "cause"), .inr (Jvm.Cond.soleField "java/lang/Throwable" "stackTrace"), .inr (Jvm.Cond.lays "java/lang/IndexOutOfBoundsException" "java/lang/Throwable" "depth" "I"), .inr (Jvm.Cond.soleField "java/lang/Throwable" "depth"), .inr (Jvm.Cond.soleField "java/lang/Throwable" "suppressedExceptions"), .inr (Jvm.Cond.superclass "java/lang/IndexOutOfBoundsException" "java/lang/RuntimeException"), .inl [1, 11, 326, 117], .inl [6, 117], .inl [9, 117], .inl [10, 117], .inr (Jvm.Cond.classLink "PowersHouse" (329 : Nat) "java/util/NoSuchElementException"), .inr (Jvm.Cond.instantiable "java/util/NoSuchElementException" (6 : Nat)), .inr (Jvm.Cond.castable "java/util/NoSuchElementException" "java/util/NoSuchElementException"), .inr (Jvm.Cond.selects "java/util/NoSuchElementException" ({ cls := "java/lang/Throwable", name := "fillInStackTrace", desc := "(I)Ljava/lang/Throwable;" } : Jvm.MethodName) ({ cls := "java/lang/Throwable", name := "fillInStackTrace", desc := "(I)Ljava/lang/Throwable;" } : Jvm.MethodName)), .inr (Jvm.Cond.lays "java/util/NoSuchElementException" "java/lang/Throwable" "cause" "Ljava/lang/Throwable;"), .inr (Jvm.Cond.lays "java/util/NoSuchElementException" "java/lang/Throwable" "stackTrace" "[Ljava/lang/StackTraceElement;"), .inr (Jvm.Cond.lays "java/util/NoSuchElementException" "java/lang/Throwable" "suppressedExceptions" "Ljava/util/List;"), .inr (Jvm.Cond.lays "java/util/NoSuchElementException" "java/lang/Throwable" "detailMessage" "Ljava/lang/String;"), .inr (Jvm.Cond.lays "java/util/NoSuchElementException" "java/lang/Throwable" "backtrace" "Ljava/lang/Object;"), .inr (Jvm.Cond.stringRef "PowersHouse" (331 : Nat) "no such what"), .inr (Jvm.Cond.methodLink "PowersHouse" (333 : Nat) ({ cls := "java/util/NoSuchElementException", name := "<init>", desc := "(Ljava/lang/String;)V" } : Jvm.MethodName)), .inr (Jvm.Cond.instanceMethod ({ cls := "java/util/NoSuchElementException", name := "<init>", desc := "(Ljava/lang/String;)V" } : Jvm.MethodName)), .inr (Jvm.Cond.code ({ cls := "java/util/NoSuchElementException", name := "<init>", desc := "(Ljava/lang/String;)V" } : Jvm.MethodName) prog_24_method_4_code (2 : Nat) (Option.none : Option Jvm.ClassFile.FieldType)), .inr (Jvm.Cond.methodLink "java/util/NoSuchElementException" (13 : Nat) ({ cls := "java/lang/RuntimeException", name := "<init>", desc := "(Ljava/lang/String;)V" } : Jvm.MethodName)), .inr (Jvm.Cond.lays "java/util/NoSuchElementException" "java/lang/Throwable" "depth" "I"), .inr (Jvm.Cond.superclass "java/util/NoSuchElementException" "java/lang/RuntimeException"), .inl [3, 13, 18, 12], .inr (Jvm.Cond.instantiable "PowersHouseModel" (90 : Nat)), .inl [1, 13, 20, 206], .inl [6, 206], .inl [10, 206], .inr (Jvm.Cond.methodLink "PowersHouseModel" (1 : Nat) ({ cls := "java/lang/Object", name := "<init>", desc := "()V" } : Jvm.MethodName)), .inr (Jvm.Cond.constant "PowersHouseModel" (160 : Nat) (43200 : Int32)), .inl [0, 12, 7, 12, 0], .inl [0, 12, 200, 12, 1], .inl [0, 12, 197, 12, 2], .inl [0, 12, 203, 12, 3], .inl [0, 12, 13, 12, 4], .inl [0, 12, 16, 12, 5], .inl [0, 12, 20, 12, 6], .inl [0, 12, 23, 12, 7], .inl [0, 12, 26, 12, 8], .inl [0, 12, 29, 12, 9], .inl [0, 12, 206, 12, 10], .inl [0, 12, 32, 12, 11], .inl [0, 12, 35, 12, 12], .inl [0, 12, 38, 12, 13], .inl [0, 12, 41, 12, 14], .inl [0, 12, 213, 12, 15], .inl [0, 12, 223, 12, 16], .inl [0, 12, 44, 12, 17], .inl [0, 12, 244, 12, 18], .inl [0, 12, 47, 12, 19], .inl [0, 12, 250, 12, 20], .inl [0, 12, 253, 12, 21], .inl [0, 12, 260, 12, 22], .inl [0, 12, 269, 12, 23], .inl [0, 12, 247, 12, 24], .inl [0, 12, 51, 12, 25], .inl [0, 12, 54, 12, 26], .inl [0, 12, 57, 12, 27], .inl [0, 12, 60, 12, 28], .inl [0, 12, 63, 12, 29], .inl [0, 12, 66, 12, 30], .inl [0, 12, 69, 12, 31], .inl [0, 12, 72, 12, 32], .inl [0, 12, 75, 12, 33], .inl [0, 12, 279, 12, 34], .inl [0, 12, 285, 12, 35], .inl [0, 12, 78, 12, 36], .inl [0, 12, 81, 12, 37], .inl [0, 12, 291, 12, 38], .inl [0, 12, 84, 12, 39], .inl [0, 12, 288, 12, 40], .inl [0, 12, 87, 12, 41], .inl [0, 12, 322, 12, 42], .inl [0, 12, 325, 12, 43], .inl [0, 12, 331, 12, 44], .inl [0, 12, 312, 12, 45], .inl [0, 12, 353, 12, 46], .inl [0, 12, 90, 12, 47], .inl [0, 12, 93, 12, 48], .inl [0, 12, 96, 12, 49], .inl [0, 12, 99, 12, 50], .inl [0, 12, 102, 12, 51], .inl [0, 12, 105, 12, 52], .inl [0, 12, 108, 12, 53], .inl [0, 12, 111, 12, 54], .inl [0, 12, 114, 12, 55], .inl [0, 12, 117, 12, 56], .inl [0, 12, 120, 12, 57], .inl [0, 12, 123, 12, 58], .inl [0, 12, 126, 12, 59], .inl [0, 12, 359, 12, 60], .inl [0, 12, 129, 12, 61], .inl [0, 12, 132, 12, 62], .inl [0, 12, 362, 12, 63], .inl [0, 12, 136, 12, 64], .inl [0, 12, 425, 12, 65], .inl [0, 12, 139, 12, 66], .inl [0, 12, 142, 12, 67], .inl [0, 12, 145, 12, 68], .inl [0, 12, 428, 12, 69], .inl [0, 12, 148, 12, 70], .inl [0, 12, 151, 12, 71], .inl [0, 12, 154, 12, 72], .inl [0, 12, 157, 12, 73], .inl [0, 12, 161, 12, 74], .inl [0, 12, 164, 12, 75], .inl [0, 12, 450, 12, 76], .inl [0, 12, 453, 12, 77], .inl [0, 12, 167, 12, 78], .inl [0, 12, 170, 12, 79], .inl [0, 12, 173, 12, 80], .inl [0, 12, 471, 12, 81], .inl [0, 12, 176, 12, 82], .inl [0, 12, 179, 12, 83], .inl [0, 12, 182, 12, 84], .inl [0, 12, 185, 12, 85], .inl [0, 12, 188, 12, 86], .inl [0, 12, 191, 12, 87], .inl [0, 12, 483, 12, 88], .inl [0, 12, 194, 12, 89], .inr (Jvm.Cond.laysFinal "PowersHouseModel" "PowersHouseModel" "tape" "[I"), .inr (Jvm.Cond.soleField "PowersHouseModel" "tape"), .inr (Jvm.Cond.lays "PowersHouseModel" "PowersHouseModel" "tapeSize" "I"), .inr (Jvm.Cond.soleField "PowersHouseModel" "tapeSize"), .inr (Jvm.Cond.lays "PowersHouseModel" "PowersHouseModel" "thrown" "I"), .inr (Jvm.Cond.soleField "PowersHouseModel" "thrown"), .inr (Jvm.Cond.lays "PowersHouseModel" "PowersHouseModel" "lands" "I"), .inr (Jvm.Cond.soleField "PowersHouseModel" "lands"), .inr (Jvm.Cond.laysFinal "PowersHouseModel" "PowersHouseModel" "souls" "[I"), .inr (Jvm.Cond.soleField "PowersHouseModel" "souls"), .inr (Jvm.Cond.laysFinal "PowersHouseModel" "PowersHouseModel" "nearOf" "[Z"), .inr (Jvm.Cond.soleField "PowersHouseModel" "nearOf"), .inr (Jvm.Cond.laysFinal "PowersHouseModel" "PowersHouseModel" "holder" "[I"), .inr (Jvm.Cond.soleField "PowersHouseModel" "holder"), .inr (Jvm.Cond.laysFinal "PowersHouseModel" "PowersHouseModel" "claims" "[I"), .inr (Jvm.Cond.soleField "PowersHouseModel" "claims"), .inr (Jvm.Cond.laysFinal "PowersHouseModel" "PowersHouseModel" "ways" "[I"), .inr (Jvm.Cond.soleField "PowersHouseModel" "ways"), .inr (Jvm.Cond.laysFinal "PowersHouseModel" "PowersHouseModel" "wayOf" "[I"), .inr (Jvm.Cond.soleField "PowersHouseModel" "wayOf"), .inr (Jvm.Cond.lays "PowersHouseModel" "PowersHouseModel" "states" "I"), .inr (Jvm.Cond.soleField "PowersHouseModel" "states"), .inr (Jvm.Cond.laysFinal "PowersHouseModel" "PowersHouseModel" "rank" "[I"), .inr (Jvm.Cond.soleField "PowersHouseModel" "rank"), .inr (Jvm.Cond.laysFinal "PowersHouseModel" "PowersHouseModel" "home" "[I"), .inr (Jvm.Cond.soleField "PowersHouseModel" "home"), .inr (Jvm.Cond.laysFinal "PowersHouseModel" "PowersHouseModel" "worths" "[I"), .inr (Jvm.Cond.soleField "PowersHouseModel" "worths"), .inr (Jvm.Cond.laysFinal "PowersHouseModel" "PowersHouseModel" "bounds" "[I"), .inr (Jvm.Cond.soleField "PowersHouseModel" "bounds"), .inr (Jvm.Cond.lays "PowersHouseModel" "PowersHouseModel" "present" "I"), .inr (Jvm.Cond.soleField "PowersHouseModel" "present"), .inr (Jvm.Cond.lays "PowersHouseModel" "PowersHouseModel" "today" "I"), .inr (Jvm.Cond.soleField "PowersHouseModel" "today"), .inr (Jvm.Cond.laysFinal "PowersHouseModel" "PowersHouseModel" "words" "[I"), .inr (Jvm.Cond.soleField "PowersHouseModel" "words"), .inr (Jvm.Cond.lays "PowersHouseModel" "PowersHouseModel" "fault" "I"), .inr (Jvm.Cond.soleField "PowersHouseModel" "fault"), .inr (Jvm.Cond.lays "PowersHouseModel" "PowersHouseModel" "faultPlace" "I"), .inr (Jvm.Cond.soleField "PowersHouseModel" "faultPlace"), .inr (Jvm.Cond.lays "PowersHouseModel" "PowersHouseModel" "stop" "I"), .inr (Jvm.Cond.soleField "PowersHouseModel" "stop"), .inr (Jvm.Cond.lays "PowersHouseModel" "PowersHouseModel" "next" "I"), .inr (Jvm.Cond.soleField "PowersHouseModel" "next"), .inr (Jvm.Cond.lays "PowersHouseModel" "PowersHouseModel" "kind" "I"), .inr (Jvm.Cond.soleField "PowersHouseModel" "kind"), .inr (Jvm.Cond.lays "PowersHouseModel" "PowersHouseModel" "which" "I"), .inr (Jvm.Cond.soleField "PowersHouseModel" "which"), .inr (Jvm.Cond.lays "PowersHouseModel" "PowersHouseModel" "place" "I"), .inr (Jvm.Cond.soleField "PowersHouseModel" "place"), .inr (Jvm.Cond.laysFinal "PowersHouseModel" "PowersHouseModel" "knot" "[I"), .inr (Jvm.Cond.soleField "PowersHouseModel" "knot"), .inr (Jvm.Cond.laysFinal "PowersHouseModel" "PowersHouseModel" "left" "[I"), .inr (Jvm.Cond.soleField "PowersHouseModel" "left"), .inr (Jvm.Cond.laysFinal "PowersHouseModel" "PowersHouseModel" "right" "[I"), .inr (Jvm.Cond.soleField "PowersHouseModel" "right"), .inr (Jvm.Cond.laysFinal "PowersHouseModel" "PowersHouseModel" "amount" "[I"), .inr (Jvm.Cond.soleField "PowersHouseModel" "amount"), .inr (Jvm.Cond.laysFinal "PowersHouseModel" "PowersHouseModel" "goesBy" "[I"), .inr (Jvm.Cond.soleField "PowersHouseModel" "goesBy"), .inr (Jvm.Cond.laysFinal "PowersHouseModel" "PowersHouseModel" "verb" "[I"), .inr (Jvm.Cond.soleField "PowersHouseModel" "verb"), .inr (Jvm.Cond.laysFinal "PowersHouseModel" "PowersHouseModel" "first" "[I"), .inr (Jvm.Cond.soleField "PowersHouseModel" "first"), .inr (Jvm.Cond.laysFinal "PowersHouseModel" "PowersHouseModel" "many" "[I"), .inr (Jvm.Cond.soleField "PowersHouseModel" "many"), .inr (Jvm.Cond.laysFinal "PowersHouseModel" "PowersHouseModel" "lines" "[I"), .inr (Jvm.Cond.soleField "PowersHouseModel" "lines"), .inr (Jvm.Cond.lays "PowersHouseModel" "PowersHouseModel" "knots" "I"), .inr (Jvm.Cond.soleField "PowersHouseModel" "knots"), .inr (Jvm.Cond.lays "PowersHouseModel" "PowersHouseModel" "orderMany" "I"), .inr (Jvm.Cond.soleField "PowersHouseModel" "orderMany"), .inr (Jvm.Cond.laysFinal "PowersHouseModel" "PowersHouseModel" "wait" "[I"), .inr (Jvm.Cond.soleField "PowersHouseModel" "wait"), .inr (Jvm.Cond.laysFinal "PowersHouseModel" "PowersHouseModel" "waitOf" "[I"), .inr (Jvm.Cond.soleField "PowersHouseModel" "waitOf"), .inr (Jvm.Cond.lays "PowersHouseModel" "PowersHouseModel" "waits" "I"), .inr (Jvm.Cond.soleField "PowersHouseModel" "waits"), .inr (Jvm.Cond.laysFinal "PowersHouseModel" "PowersHouseModel" "held" "[I"), .inr (Jvm.Cond.soleField "PowersHouseModel" "held"), .inr (Jvm.Cond.lays "PowersHouseModel" "PowersHouseModel" "helds" "I"), .inr (Jvm.Cond.soleField "PowersHouseModel" "helds"), .inr (Jvm.Cond.laysFinal "PowersHouseModel" "PowersHouseModel" "compared" "[Z"), .inr (Jvm.Cond.soleField "PowersHouseModel" "compared"), .inr (Jvm.Cond.lays "PowersHouseModel" "PowersHouseModel" "open" "I"), .inr (Jvm.Cond.soleField "PowersHouseModel" "open"), .inr (Jvm.Cond.lays "PowersHouseModel" "PowersHouseModel" "hasCompared" "Z"), .inr (Jvm.Cond.soleField "PowersHouseModel" "hasCompared"), .inr (Jvm.Cond.lays "PowersHouseModel" "PowersHouseModel" "wantsValue" "Z"), .inr (Jvm.Cond.soleField "PowersHouseModel" "wantsValue"), .inr (Jvm.Cond.lays "PowersHouseModel" "PowersHouseModel" "mayNot" "Z"), .inr (Jvm.Cond.soleField "PowersHouseModel" "mayNot"), .inr (Jvm.Cond.lays "PowersHouseModel" "PowersHouseModel" "papers" "I"), .inr (Jvm.Cond.soleField "PowersHouseModel" "papers"), .inr (Jvm.Cond.laysFinal "PowersHouseModel" "PowersHouseModel" "isNote" "[Z"), .inr (Jvm.Cond.soleField "PowersHouseModel" "isNote"), .inr (Jvm.Cond.laysFinal "PowersHouseModel" "PowersHouseModel" "from" "[I"), .inr (Jvm.Cond.soleField "PowersHouseModel" "from")]
def ent_8 : List (List Nat ⊕ Cond) := [.inr (Jvm.Cond.laysFinal "PowersHouseModel" "PowersHouseModel" "to" "[I"), .inr (Jvm.Cond.soleField "PowersHouseModel" "to"), .inr (Jvm.Cond.laysFinal "PowersHouseModel" "PowersHouseModel" "toldOn" "[I"), .inr (Jvm.Cond.soleField "PowersHouseModel" "toldOn"), .inr (Jvm.Cond.laysFinal "PowersHouseModel" "PowersHouseModel" "gives" "[I"), .inr (Jvm.Cond.soleField "PowersHouseModel" "gives"), .inr (Jvm.Cond.laysFinal "PowersHouseModel" "PowersHouseModel" "takes" "[I"), .inr (Jvm.Cond.soleField "PowersHouseModel" "takes"), .inr (Jvm.Cond.laysFinal "PowersHouseModel" "PowersHouseModel" "till" "[I"), .inr (Jvm.Cond.soleField "PowersHouseModel" "till"), .inr (Jvm.Cond.laysFinal "PowersHouseModel" "PowersHouseModel" "link" "[I"), .inr (Jvm.Cond.soleField "PowersHouseModel" "link"), .inr (Jvm.Cond.laysFinal "PowersHouseModel" "PowersHouseModel" "wordOf" "[I"), .inr (Jvm.Cond.soleField "PowersHouseModel" "wordOf"), .inr (Jvm.Cond.laysFinal "PowersHouseModel" "PowersHouseModel" "opened" "[I"), .inr (Jvm.Cond.soleField "PowersHouseModel" "opened"), .inr (Jvm.Cond.laysFinal "PowersHouseModel" "PowersHouseModel" "fate" "[I"), .inr (Jvm.Cond.soleField "PowersHouseModel" "fate"), .inr (Jvm.Cond.laysFinal "PowersHouseModel" "PowersHouseModel" "lineOf" "[I"), .inr (Jvm.Cond.soleField "PowersHouseModel" "lineOf"), .inr (Jvm.Cond.laysFinal "PowersHouseModel" "PowersHouseModel" "answer" "[I"), .inr (Jvm.Cond.soleField "PowersHouseModel" "answer"), .inr (Jvm.Cond.lays "PowersHouseModel" "PowersHouseModel" "spies" "I"), .inr (Jvm.Cond.soleField "PowersHouseModel" "spies"), .inr (Jvm.Cond.laysFinal "PowersHouseModel" "PowersHouseModel" "spy" "[I"), .inr (Jvm.Cond.soleField "PowersHouseModel" "spy"), .inr (Jvm.Cond.laysFinal "PowersHouseModel" "PowersHouseModel" "worked" "[J"), .inr (Jvm.Cond.soleField "PowersHouseModel" "worked"), .inr (Jvm.Cond.lays "PowersHouseModel" "PowersHouseModel" "error" "Z"), .inr (Jvm.Cond.soleField "PowersHouseModel" "error"), .inr (Jvm.Cond.laysFinal "PowersHouseModel" "PowersHouseModel" "inChain" "[Z"), .inr (Jvm.Cond.soleField "PowersHouseModel" "inChain"), .inr (Jvm.Cond.lays "PowersHouseModel" "PowersHouseModel" "disputes" "I"), .inr (Jvm.Cond.soleField "PowersHouseModel" "disputes"), .inr (Jvm.Cond.laysFinal "PowersHouseModel" "PowersHouseModel" "disputed" "[I"), .inr (Jvm.Cond.soleField "PowersHouseModel" "disputed"), .inr (Jvm.Cond.laysFinal "PowersHouseModel" "PowersHouseModel" "claimant" "[I"), .inr (Jvm.Cond.soleField "PowersHouseModel" "claimant"), .inr (Jvm.Cond.laysFinal "PowersHouseModel" "PowersHouseModel" "claimants" "[I"), .inr (Jvm.Cond.soleField "PowersHouseModel" "claimants"), .inr (Jvm.Cond.lays "PowersHouseModel" "PowersHouseModel" "rows" "I"), .inr (Jvm.Cond.soleField "PowersHouseModel" "rows"), .inr (Jvm.Cond.laysFinal "PowersHouseModel" "PowersHouseModel" "sure" "[I"), .inr (Jvm.Cond.soleField "PowersHouseModel" "sure"), .inr (Jvm.Cond.laysFinal "PowersHouseModel" "PowersHouseModel" "now" "[I"), .inr (Jvm.Cond.soleField "PowersHouseModel" "now"), .inr (Jvm.Cond.laysFinal "PowersHouseModel" "PowersHouseModel" "gets" "[I"), .inr (Jvm.Cond.soleField "PowersHouseModel" "gets"), .inr (Jvm.Cond.laysFinal "PowersHouseModel" "PowersHouseModel" "given" "[I"), .inr (Jvm.Cond.soleField "PowersHouseModel" "given"), .inr (Jvm.Cond.laysFinal "PowersHouseModel" "PowersHouseModel" "leaves" "[I"), .inr (Jvm.Cond.soleField "PowersHouseModel" "leaves"), .inr (Jvm.Cond.laysFinal "PowersHouseModel" "PowersHouseModel" "bestOf" "[I"), .inr (Jvm.Cond.soleField "PowersHouseModel" "bestOf"), .inr (Jvm.Cond.lays "PowersHouseModel" "PowersHouseModel" "bestLeast" "I"), .inr (Jvm.Cond.soleField "PowersHouseModel" "bestLeast"), .inr (Jvm.Cond.lays "PowersHouseModel" "PowersHouseModel" "bestSum" "I"), .inr (Jvm.Cond.soleField "PowersHouseModel" "bestSum"), .inr (Jvm.Cond.laysFinal "PowersHouseModel" "PowersHouseModel" "kept" "[Z"), .inr (Jvm.Cond.soleField "PowersHouseModel" "kept"), .inr (Jvm.Cond.laysFinal "PowersHouseModel" "PowersHouseModel" "ring" "[I"), .inr (Jvm.Cond.soleField "PowersHouseModel" "ring"), .inr (Jvm.Cond.laysFinal "PowersHouseModel" "PowersHouseModel" "ringLand" "[I"), .inr (Jvm.Cond.soleField "PowersHouseModel" "ringLand"), .inr (Jvm.Cond.lays "PowersHouseModel" "PowersHouseModel" "articles" "I"), .inr (Jvm.Cond.soleField "PowersHouseModel" "articles"), .inr (Jvm.Cond.laysFinal "PowersHouseModel" "PowersHouseModel" "size" "[I"), .inr (Jvm.Cond.soleField "PowersHouseModel" "size"), .inr (Jvm.Cond.laysFinal "PowersHouseModel" "PowersHouseModel" "text" "[I"), .inr (Jvm.Cond.soleField "PowersHouseModel" "text"), .inr (Jvm.Cond.laysFinal "PowersHouseModel" "PowersHouseModel" "hangs" "[Z"), .inr (Jvm.Cond.soleField "PowersHouseModel" "hangs"), .inr (Jvm.Cond.laysFinal "PowersHouseModel" "PowersHouseModel" "reserves" "[I"), .inr (Jvm.Cond.soleField "PowersHouseModel" "reserves"), .inr (Jvm.Cond.laysFinal "PowersHouseModel" "PowersHouseModel" "far" "[I"), .inr (Jvm.Cond.soleField "PowersHouseModel" "far"), .inr (Jvm.Cond.laysFinal "PowersHouseModel" "PowersHouseModel" "heldBy" "[I"), .inr (Jvm.Cond.soleField "PowersHouseModel" "heldBy"), .inr (Jvm.Cond.lays "PowersHouseModel" "PowersHouseModel" "drafts" "I"), .inr (Jvm.Cond.soleField "PowersHouseModel" "drafts"), .inr (Jvm.Cond.laysFinal "PowersHouseModel" "PowersHouseModel" "openNow" "[Z"), .inr (Jvm.Cond.soleField "PowersHouseModel" "openNow"), .inr (Jvm.Cond.superclass "PowersHouseModel" "java/lang/Object"), .inr (Jvm.Cond.arrayClass Jvm.ClassFile.FieldType.boolean), .inl [1, 13, 25, 208], .inl [6, 208], .inl [9, 208], .inl [10, 208], .inl [1, 13, 38, 209], .inl [6, 209], .inl [9, 209], .inl [10, 209], .inl [1, 12, 216, 210], .inl [7, 210], .inl [10, 210], .inl [1, 13, 43, 211], .inl [6, 211], .inl [9, 211], .inl [10, 211], .inl [1, 12, 220, 212], .inr (Jvm.Cond.privateMethod ({ cls := "PowersHouseModel", name := "isLand", desc := "(I)Z" } : Jvm.MethodName)), .inl [6, 212], .inl [10, 212], .inl [1, 13, 47, 213], .inl [6, 213], .inl [9, 213], .inl [10, 213], .inl [1, 13, 51, 214], .inl [6, 214], .inl [9, 214], .inl [10, 214], .inl [1, 12, 226, 215], .inr (Jvm.Cond.privateMethod ({ cls := "PowersHouseModel", name := "isPresent", desc := "(I)Z" } : Jvm.MethodName)), .inl [6, 215], .inl [10, 215], .inl [1, 12, 209, 216], .inr (Jvm.Cond.privateMethod ({ cls := "PowersHouseModel", name := "isState", desc := "(I)Z" } : Jvm.MethodName)), .inl [6, 216], .inl [10, 216], .inl [1, 12, 229, 217], .inr (Jvm.Cond.privateMethod ({ cls := "PowersHouseModel", name := "comesTo", desc := "(III)V" } : Jvm.MethodName)), .inl [6, 217], .inl [10, 217], .inl [1, 13, 56, 218], .inl [6, 218], .inl [9, 218], .inl [10, 218], .inl [1, 12, 233, 219], .inl [7, 219], .inl [10, 219], .inl [1, 13, 61, 220], .inl [6, 220], .inl [9, 220], .inl [10, 220], .inl [1, 13, 65, 221], .inl [6, 221], .inl [9, 221], .inl [10, 221], .inl [1, 13, 109, 222], .inl [6, 222], .inl [9, 222], .inl [10, 222], .inl [1, 12, 237, 223], .inr (Jvm.Cond.privateMethod ({ cls := "PowersHouseModel", name := "holdings", desc := "(I)I" } : Jvm.MethodName)), .inl [6, 223], .inl [10, 223], .inl [1, 12, 240, 224], .inr (Jvm.Cond.privateMethod ({ cls := "PowersHouseModel", name := "worthOf", desc := "(II)I" } : Jvm.MethodName)), .inl [6, 224], .inl [10, 224], .inl [1, 13, 29, 225], .inl [6, 225], .inl [9, 225], .inl [10, 225], .inl [1, 12, 316, 226], .inr (Jvm.Cond.privateMethod ({ cls := "PowersHouseModel", name := "take", desc := "()V" } : Jvm.MethodName)), .inl [6, 226], .inl [10, 226], .inl [1, 12, 263, 227], .inr (Jvm.Cond.privateMethod ({ cls := "PowersHouseModel", name := "isSmall", desc := "(I)Z" } : Jvm.MethodName)), .inl [6, 227], .inl [10, 227], .inl [1, 12, 266, 228], .inr (Jvm.Cond.privateMethod ({ cls := "PowersHouseModel", name := "wordAt", desc := "(II)I" } : Jvm.MethodName)), .inl [6, 228], .inl [10, 228], .inl [1, 12, 272, 229], .inr (Jvm.Cond.privateMethod ({ cls := "PowersHouseModel", name := "isDigit", desc := "(I)Z" } : Jvm.MethodName)), .inl [6, 229], .inl [10, 229], .inr (Jvm.Cond.constant "PowersHouseModel" (275 : Nat) (99999 : Int32)), .inl [1, 12, 276, 230], .inr (Jvm.Cond.privateMethod ({ cls := "PowersHouseModel", name := "signOf", desc := "(I)I" } : Jvm.MethodName)), .inl [6, 230], .inl [10, 230], .inl [1, 12, 256, 231], .inr (Jvm.Cond.privateMethod ({ cls := "PowersHouseModel", name := "isAt", desc := "(II)Z" } : Jvm.MethodName)), .inl [6, 231], .inl [10, 231], .inl [1, 12, 350, 232], .inr (Jvm.Cond.privateMethod ({ cls := "PowersHouseModel", name := "line", desc := "()Z" } : Jvm.MethodName)), .inl [6, 232], .inl [10, 232], .inl [1, 12, 282, 233], .inr (Jvm.Cond.privateMethod ({ cls := "PowersHouseModel", name := "wrong", desc := "(I)Z" } : Jvm.MethodName)), .inl [6, 233], .inl [10, 233], .inl [1, 12, 347, 234], .inr (Jvm.Cond.privateMethod ({ cls := "PowersHouseModel", name := "expression", desc := "()Z" } : Jvm.MethodName)), .inl [6, 234], .inl [10, 234], .inl [1, 12, 337, 235], .inr (Jvm.Cond.privateMethod ({ cls := "PowersHouseModel", name := "valueRead", desc := "()Z" } : Jvm.MethodName)), .inl [6, 235], .inl [10, 235], .inl [1, 12, 319, 236], .inr (Jvm.Cond.privateMethod ({ cls := "PowersHouseModel", name := "isSign", desc := "(I)Z" } : Jvm.MethodName)), .inl [6, 236], .inl [10, 236], .inl [1, 12, 308, 237], .inr (Jvm.Cond.privateMethod ({ cls := "PowersHouseModel", name := "waitFor", desc := "(II)V" } : Jvm.MethodName)), .inl [6, 237], .inl [10, 237], .inl [1, 12, 328, 238], .inr (Jvm.Cond.privateMethod ({ cls := "PowersHouseModel", name := "ofOne", desc := "(I)Z" } : Jvm.MethodName)), .inl [6, 238], .inl [10, 238], .inl [1, 12, 305, 239], .inr (Jvm.Cond.privateMethod ({ cls := "PowersHouseModel", name := "grown", desc := "(II)I" } : Jvm.MethodName)), .inl [6, 239], .inl [10, 239], .inl [1, 12, 301, 240], .inr (Jvm.Cond.privateMethod ({ cls := "PowersHouseModel", name := "done", desc := "(I)V" } : Jvm.MethodName)), .inl [6, 240], .inl [10, 240], .inl [1, 12, 341, 241], .inr (Jvm.Cond.privateMethod ({ cls := "PowersHouseModel", name := "signNow", desc := "()I" } : Jvm.MethodName)), .inl [6, 241], .inl [10, 241], .inl [1, 12, 344, 242], .inr (Jvm.Cond.privateMethod ({ cls := "PowersHouseModel", name := "joins", desc := "(I)Z" } : Jvm.MethodName)), .inl [6, 242], .inl [10, 242], .inl [1, 12, 294, 243], .inl [7, 243], .inl [10, 243], .inl [1, 12, 334, 244], .inr (Jvm.Cond.privateMethod ({ cls := "PowersHouseModel", name := "bind", desc := "(I)V" } : Jvm.MethodName)), .inl [6, 244], .inl [10, 244], .inl [1, 12, 297, 245], .inr (Jvm.Cond.privateMethod ({ cls := "PowersHouseModel", name := "drop", desc := "()I" } : Jvm.MethodName)), .inl [6, 245], .inl [10, 245], .inl [1, 13, 34, 246], .inl [6, 246], .inl [9, 246], .inl [10, 246], .inl [1, 13, 70, 247], .inl [6, 247]]
def ent_9 : List (List Nat ⊕ Cond) := [.inl [9, 247], .inl [10, 247], .inl [1, 12, 356, 248], .inr (Jvm.Cond.privateMethod ({ cls := "PowersHouseModel", name := "isOffer", desc := "(I)Z" } : Jvm.MethodName)), .inl [6, 248], .inl [10, 248], .inl [1, 13, 75, 249], .inl [6, 249], .inl [9, 249], .inl [10, 249], .inl [1, 13, 80, 250], .inl [6, 250], .inl [9, 250], .inl [10, 250], .inl [1, 13, 84, 251], .inl [6, 251], .inl [9, 251], .inl [10, 251], .inl [1, 12, 413, 252], .inr (Jvm.Cond.privateMethod ({ cls := "PowersHouseModel", name := "isOpenOne", desc := "(I)Z" } : Jvm.MethodName)), .inl [6, 252], .inl [10, 252], .inl [1, 12, 416, 253], .inr (Jvm.Cond.privateMethod ({ cls := "PowersHouseModel", name := "answers", desc := "(I)V" } : Jvm.MethodName)), .inl [6, 253], .inl [10, 253], .inl [1, 12, 400, 254], .inr (Jvm.Cond.privateMethod ({ cls := "PowersHouseModel", name := "lineNow", desc := "(IZ)I" } : Jvm.MethodName)), .inl [6, 254], .inl [10, 254], .inl [1, 12, 397, 255], .inr (Jvm.Cond.privateMethod ({ cls := "PowersHouseModel", name := "holdsLine", desc := "(II)Z" } : Jvm.MethodName)), .inl [6, 255], .inl [10, 255], .inl [1, 12, 393, 256], .inr (Jvm.Cond.privateMethod ({ cls := "PowersHouseModel", name := "valueOf", desc := "(II)J" } : Jvm.MethodName)), .inl [6, 256], .inl [10, 256], .inl [1, 12, 384, 257], .inr (Jvm.Cond.privateMethod ({ cls := "PowersHouseModel", name := "nameValue", desc := "(II)I" } : Jvm.MethodName)), .inl [6, 257], .inl [10, 257], .inl [1, 12, 378, 258], .inr (Jvm.Cond.privateMethod ({ cls := "PowersHouseModel", name := "soulsOf", desc := "(I)I" } : Jvm.MethodName)), .inl [6, 258], .inl [10, 258], .inl [1, 12, 381, 259], .inr (Jvm.Cond.privateMethod ({ cls := "PowersHouseModel", name := "nearTo", desc := "(II)I" } : Jvm.MethodName)), .inl [6, 259], .inl [10, 259], .inl [1, 12, 371, 260], .inl [7, 260], .inl [10, 260], .inl [1, 12, 387, 261], .inr (Jvm.Cond.privateMethod ({ cls := "PowersHouseModel", name := "made", desc := "(IJJ)J" } : Jvm.MethodName)), .inl [6, 261], .inl [10, 261], .inl [1, 12, 375, 262], .inr (Jvm.Cond.privateMethod ({ cls := "PowersHouseModel", name := "bounded", desc := "(J)J" } : Jvm.MethodName)), .inl [6, 262], .inl [10, 262], .inl [1, 12, 365, 263], .inl [7, 263], .inl [10, 263], .inr (Jvm.Cond.constantLong "PowersHouseModel" (369 : Nat) (1000000000000 : Int64)), .inr (Jvm.Cond.constantLong "PowersHouseModel" (391 : Nat) (-9223372036854775808 : Int64)), .inl [1, 12, 419, 264], .inr (Jvm.Cond.privateMethod ({ cls := "PowersHouseModel", name := "settlesChain", desc := "(I)V" } : Jvm.MethodName)), .inl [6, 264], .inl [10, 264], .inl [1, 12, 404, 265], .inr (Jvm.Cond.privateMethod ({ cls := "PowersHouseModel", name := "chainOf", desc := "(I)V" } : Jvm.MethodName)), .inl [6, 265], .inl [10, 265], .inl [1, 12, 407, 266], .inr (Jvm.Cond.privateMethod ({ cls := "PowersHouseModel", name := "allBecome", desc := "(III)V" } : Jvm.MethodName)), .inl [6, 266], .inl [10, 266], .inl [1, 12, 410, 267], .inr (Jvm.Cond.privateMethod ({ cls := "PowersHouseModel", name := "canBe", desc := "()Z" } : Jvm.MethodName)), .inl [6, 267], .inl [10, 267], .inl [1, 13, 88, 268], .inl [6, 268], .inl [9, 268], .inl [10, 268], .inl [1, 13, 92, 269], .inl [6, 269], .inl [9, 269], .inl [10, 269], .inl [1, 13, 97, 270], .inl [6, 270], .inl [9, 270], .inl [10, 270], .inl [1, 13, 101, 271], .inl [6, 271], .inl [9, 271], .inl [10, 271], .inl [1, 12, 422, 272], .inr (Jvm.Cond.privateMethod ({ cls := "PowersHouseModel", name := "knownFrom", desc := "(II)I" } : Jvm.MethodName)), .inl [6, 272], .inl [10, 272], .inl [1, 13, 105, 273], .inl [6, 273], .inl [9, 273], .inl [10, 273], .inl [1, 13, 113, 274], .inl [6, 274], .inl [9, 274], .inl [10, 274], .inl [1, 12, 431, 275], .inr (Jvm.Cond.privateMethod ({ cls := "PowersHouseModel", name := "gather", desc := "()V" } : Jvm.MethodName)), .inl [6, 275], .inl [10, 275], .inl [1, 12, 434, 276], .inr (Jvm.Cond.privateMethod ({ cls := "PowersHouseModel", name := "isSpent", desc := "()Z" } : Jvm.MethodName)), .inl [6, 276], .inl [10, 276], .inl [1, 12, 437, 277], .inr (Jvm.Cond.privateMethod ({ cls := "PowersHouseModel", name := "shares", desc := "()V" } : Jvm.MethodName)), .inl [6, 277], .inl [10, 277], .inl [1, 12, 440, 278], .inr (Jvm.Cond.privateMethod ({ cls := "PowersHouseModel", name := "row", desc := "(I)V" } : Jvm.MethodName)), .inl [6, 278], .inl [10, 278], .inl [1, 12, 443, 279], .inr (Jvm.Cond.privateMethod ({ cls := "PowersHouseModel", name := "isFair", desc := "()Z" } : Jvm.MethodName)), .inl [6, 279], .inl [10, 279], .inl [1, 12, 446, 280], .inr (Jvm.Cond.privateMethod ({ cls := "PowersHouseModel", name := "isStable", desc := "()Z" } : Jvm.MethodName)), .inl [6, 280], .inl [10, 280], .inl [1, 13, 117, 281], .inl [6, 281], .inl [9, 281], .inl [10, 281], .inl [1, 12, 459, 282], .inr (Jvm.Cond.privateMethod ({ cls := "PowersHouseModel", name := "bestTold", desc := "(I)I" } : Jvm.MethodName)), .inl [6, 282], .inl [10, 282], .inl [1, 12, 456, 283], .inr (Jvm.Cond.privateMethod ({ cls := "PowersHouseModel", name := "finds", desc := "()Z" } : Jvm.MethodName)), .inl [6, 283], .inl [10, 283], .inr (Jvm.Cond.constant "PowersHouseModel" (449 : Nat) (100000 : Int32)), .inl [1, 13, 121, 284], .inl [6, 284], .inl [9, 284], .inl [10, 284], .inl [1, 13, 126, 285], .inl [6, 285], .inl [9, 285], .inl [10, 285], .inl [1, 13, 130, 286], .inl [6, 286], .inl [9, 286], .inl [10, 286], .inl [1, 13, 134, 287], .inl [6, 287], .inl [9, 287], .inl [10, 287], .inl [1, 12, 468, 288], .inr (Jvm.Cond.privateMethod ({ cls := "PowersHouseModel", name := "swapOf", desc := "(I)Z" } : Jvm.MethodName)), .inl [6, 288], .inl [10, 288], .inl [1, 12, 462, 289], .inr (Jvm.Cond.privateMethod ({ cls := "PowersHouseModel", name := "isRing", desc := "(I)Z" } : Jvm.MethodName)), .inl [6, 289], .inl [10, 289], .inl [1, 12, 465, 290], .inr (Jvm.Cond.privateMethod ({ cls := "PowersHouseModel", name := "isSwap", desc := "(I)Z" } : Jvm.MethodName)), .inl [6, 290], .inl [10, 290], .inl [1, 13, 138, 291], .inl [6, 291], .inl [9, 291], .inl [10, 291], .inl [1, 13, 142, 292], .inl [6, 292], .inl [9, 292], .inl [10, 292], .inl [1, 12, 474, 293], .inr (Jvm.Cond.privateMethod ({ cls := "PowersHouseModel", name := "isArticle", desc := "(I)Z" } : Jvm.MethodName)), .inl [6, 293], .inl [10, 293], .inl [1, 13, 146, 294], .inl [6, 294], .inl [9, 294], .inl [10, 294], .inl [1, 13, 150, 295], .inl [6, 295], .inl [9, 295], .inl [10, 295], .inl [1, 13, 154, 296], .inl [6, 296], .inl [9, 296], .inl [10, 296], .inl [1, 12, 477, 297], .inr (Jvm.Cond.privateMethod ({ cls := "PowersHouseModel", name := "farOf", desc := "(II)I" } : Jvm.MethodName)), .inl [6, 297], .inl [10, 297], .inl [1, 13, 158, 298], .inl [6, 298], .inl [9, 298], .inl [10, 298], .inl [1, 12, 486, 299], .inr (Jvm.Cond.privateMethod ({ cls := "PowersHouseModel", name := "baseOf", desc := "(I)I" } : Jvm.MethodName)), .inl [6, 299], .inl [10, 299], .inl [1, 12, 480, 300], .inr (Jvm.Cond.privateMethod ({ cls := "PowersHouseModel", name := "hasDraft", desc := "(II)Z" } : Jvm.MethodName)), .inl [6, 300], .inl [10, 300], .inl [1, 12, 498, 301], .inr (Jvm.Cond.privateMethod ({ cls := "PowersHouseModel", name := "isOpen", desc := "(I)Z" } : Jvm.MethodName)), .inl [6, 301], .inl [10, 301], .inl [1, 12, 495, 302], .inr (Jvm.Cond.privateMethod ({ cls := "PowersHouseModel", name := "isOpenAlone", desc := "(I)Z" } : Jvm.MethodName)), .inl [6, 302], .inl [10, 302], .inl [1, 12, 489, 303], .inr (Jvm.Cond.privateMethod ({ cls := "PowersHouseModel", name := "lays", desc := "(II)V" } : Jvm.MethodName)), .inl [6, 303], .inl [10, 303], .inl [1, 12, 492, 304], .inr (Jvm.Cond.privateMethod ({ cls := "PowersHouseModel", name := "gradeOf", desc := "(I)I" } : Jvm.MethodName)), .inl [6, 304], .inl [10, 304], .inl [1, 13, 162, 305], .inl [6, 305], .inl [9, 305], .inl [10, 305], .inl [1, 13, 166, 306], .inl [6, 306], .inl [9, 306], .inl [10, 306], .inl [1, 13, 170, 307]]
def ent_10 : List (List Nat ⊕ Cond) := [.inl [6, 307], .inl [9, 307], .inl [10, 307], .inl [1, 13, 176, 308], .inl [6, 308], .inl [9, 308], .inl [10, 308], .inl [1, 12, 501, 309], .inr (Jvm.Cond.privateMethod ({ cls := "PowersHouseModel", name := "fails", desc := "(I)I" } : Jvm.MethodName)), .inl [6, 309], .inl [10, 309], .inl [1, 13, 180, 310], .inl [6, 310], .inl [9, 310], .inl [10, 310], .inr (Jvm.Cond.sameMethod "java/lang/Throwable" "java/lang/Throwable" "fillInStackTrace" "(I)Ljava/lang/Throwable;"), .inr (Jvm.Cond.castable "PowersHouse" "java/lang/Object"), .inr (Jvm.Cond.castable "PowersHouse$Realm" "java/lang/Object"), .inr (Jvm.Cond.castable "PowersHouse$Tape" "java/lang/Object"), .inr (Jvm.Cond.castable "PowersHouse$OrdersReader" "java/lang/Object"), .inr (Jvm.Cond.castable "PowersHouse$OrdersBook" "java/lang/Object"), .inr (Jvm.Cond.castable "PowersHouse$Spies" "java/lang/Object"), .inr (Jvm.Cond.castable "PowersHouse$Papers" "java/lang/Object"), .inr (Jvm.Cond.castable "PowersHouse$Delegates" "java/lang/Object"), .inr (Jvm.Cond.castable "PowersHouse$Shares" "java/lang/Object"), .inr (Jvm.Cond.castable "PowersHouse$Settlements" "java/lang/Object"), .inr (Jvm.Cond.castable "PowersHouse$Ring" "java/lang/Object"), .inr (Jvm.Cond.castable "PowersHouse$Articles" "java/lang/Object"), .inr (Jvm.Cond.castable "PowersHouseModel" "java/lang/Object"), .inr (Jvm.Cond.castable "java/lang/IndexOutOfBoundsException" "java/lang/Object"), .inr (Jvm.Cond.castable "java/util/NoSuchElementException" "java/lang/Object"), .inr (Jvm.Cond.castable "java/lang/Throwable" "java/lang/Object"), .inr (Jvm.Cond.castable "java/lang/String" "java/lang/Object"), .inr (Jvm.Cond.fieldLink "java/lang/String" (9 : Nat) "java/lang/String" "value" "[B"), .inr (Jvm.Cond.fieldLink "java/lang/String" (15 : Nat) "java/lang/String" "coder" "B")]
set_option maxRecDepth 100000 in
theorem le_0 : k2_sels lw_privs = ent_0.map de := rfl
set_option maxRecDepth 100000 in
theorem le_1 : tables_1_1 = ent_1.map de := rfl
set_option maxRecDepth 100000 in
theorem le_2 : tables_1_2 = ent_2.map de := rfl
set_option maxRecDepth 100000 in
theorem le_3 : tables_1_3 = ent_3.map de := rfl
set_option maxRecDepth 100000 in
theorem le_4 : tables_1_4 = ent_4.map de := rfl
set_option maxRecDepth 100000 in
theorem le_5 : tables_1_5 = ent_5.map de := rfl
set_option maxRecDepth 100000 in
theorem le_6 : tables_1_6 = ent_6.map de := rfl
set_option maxRecDepth 100000 in
theorem le_7 : tables_1_7 = ent_7.map de := rfl
set_option maxRecDepth 100000 in
theorem le_8 : tables_1_8 = ent_8.map de := rfl
set_option maxRecDepth 100000 in
theorem le_9 : tables_1_9 = ent_9.map de := rfl
set_option maxRecDepth 100000 in
theorem le_10 : tables_1_10 = ent_10.map de := rfl
def ent : List (List Nat ⊕ Cond) := ent_0 ++ (ent_1 ++ (ent_2 ++ (ent_3 ++ (ent_4 ++ (ent_5 ++ (ent_6 ++ (ent_7 ++ (ent_8 ++ (ent_9 ++ (ent_10))))))))))
theorem le_t : tables_1 = (ent_1 ++ (ent_2 ++ (ent_3 ++ (ent_4 ++ (ent_5 ++ (ent_6 ++ (ent_7 ++ (ent_8 ++ (ent_9 ++ (ent_10)))))))))).map de := by
  show tables_1_1 ++ (tables_1_2 ++ (tables_1_3 ++ (tables_1_4 ++ (tables_1_5 ++ (tables_1_6 ++ (tables_1_7 ++ (tables_1_8 ++ (tables_1_9 ++ (tables_1_10))))))))) = _
  rw [le_1, le_2, le_3, le_4, le_5, le_6, le_7, le_8, le_9, le_10]
  simp only [List.map_append]
theorem le_all : lw_tbl = ent.map de := by
  have h : k2_sels lw_privs ++ tables_1 = ent_0.map de ++ (ent_1 ++ (ent_2 ++ (ent_3 ++ (ent_4 ++ (ent_5 ++ (ent_6 ++ (ent_7 ++ (ent_8 ++ (ent_9 ++ (ent_10)))))))))).map de := by rw [le_0, le_t]
  exact h.trans List.map_append.symm
end
section
/-! The tests by numbers, and that they are the tests. -/
def enT (i : Nat) : List Nat := (bif Nat.blt i 1157 then (bif Nat.blt i 578 then (bif Nat.blt i 289 then (bif Nat.blt i 144 then (bif Nat.blt i 72 then (bif Nat.blt i 36 then (bif Nat.blt i 18 then (bif Nat.blt i 9 then (bif Nat.blt i 4 then (bif Nat.blt i 2 then (bif Nat.blt i 1 then [9, 157] else [9, 160]) else (bif Nat.blt i 3 then [9, 162] else [9, 163])) else (bif Nat.blt i 6 then (bif Nat.blt i 5 then [9, 164] else [9, 165]) else (bif Nat.blt i 7 then [9, 48] else (bif Nat.blt i 8 then [9, 49] else [9, 50])))) else (bif Nat.blt i 13 then (bif Nat.blt i 11 then (bif Nat.blt i 10 then [9, 51] else [9, 52]) else (bif Nat.blt i 12 then [9, 53] else [9, 55])) else (bif Nat.blt i 15 then (bif Nat.blt i 14 then [9, 56] else [9, 57]) else (bif Nat.blt i 16 then [9, 58] else (bif Nat.blt i 17 then [9, 59] else [9, 60]))))) else (bif Nat.blt i 27 then (bif Nat.blt i 22 then (bif Nat.blt i 20 then (bif Nat.blt i 19 then [9, 61] else [9, 62]) else (bif Nat.blt i 21 then [9, 23] else [9, 27])) else (bif Nat.blt i 24 then (bif Nat.blt i 23 then [9, 28] else [9, 31]) else (bif Nat.blt i 25 then [9, 32] else (bif Nat.blt i 26 then [9, 33] else [9, 34])))) else (bif Nat.blt i 31 then (bif Nat.blt i 29 then (bif Nat.blt i 28 then [9, 35] else [9, 36]) else (bif Nat.blt i 30 then [9, 37] else [9, 38])) else (bif Nat.blt i 33 then (bif Nat.blt i 32 then [9, 129] else [9, 130]) else (bif Nat.blt i 34 then [9, 131] else (bif Nat.blt i 35 then [9, 132] else [9, 133])))))) else (bif Nat.blt i 54 then (bif Nat.blt i 45 then (bif Nat.blt i 40 then (bif Nat.blt i 38 then (bif Nat.blt i 37 then [9, 134] else [9, 135]) else (bif Nat.blt i 39 then [9, 146] else [9, 148])) else (bif Nat.blt i 42 then (bif Nat.blt i 41 then [9, 136] else [9, 137]) else (bif Nat.blt i 43 then [9, 140] else (bif Nat.blt i 44 then [9, 142] else [9, 120])))) else (bif Nat.blt i 49 then (bif Nat.blt i 47 then (bif Nat.blt i 46 then [9, 121] else [9, 122]) else (bif Nat.blt i 48 then [9, 123] else [9, 124])) else (bif Nat.blt i 51 then (bif Nat.blt i 50 then [9, 125] else [9, 9]) else (bif Nat.blt i 52 then [9, 11] else (bif Nat.blt i 53 then [9, 12] else [9, 14]))))) else (bif Nat.blt i 63 then (bif Nat.blt i 58 then (bif Nat.blt i 56 then (bif Nat.blt i 55 then [9, 15] else [9, 16]) else (bif Nat.blt i 57 then [9, 17] else [])) else (bif Nat.blt i 60 then (bif Nat.blt i 59 then [9, 212] else [9, 215]) else (bif Nat.blt i 61 then [9, 216] else (bif Nat.blt i 62 then [9, 217] else [9, 223])))) else (bif Nat.blt i 67 then (bif Nat.blt i 65 then (bif Nat.blt i 64 then [9, 224] else [9, 226]) else (bif Nat.blt i 66 then [9, 227] else [9, 228])) else (bif Nat.blt i 69 then (bif Nat.blt i 68 then [9, 229] else [9, 230]) else (bif Nat.blt i 70 then [9, 231] else (bif Nat.blt i 71 then [9, 232] else [9, 233]))))))) else (bif Nat.blt i 108 then (bif Nat.blt i 90 then (bif Nat.blt i 81 then (bif Nat.blt i 76 then (bif Nat.blt i 74 then (bif Nat.blt i 73 then [9, 234] else [9, 235]) else (bif Nat.blt i 75 then [9, 236] else [9, 237])) else (bif Nat.blt i 78 then (bif Nat.blt i 77 then [9, 238] else [9, 239]) else (bif Nat.blt i 79 then [9, 240] else (bif Nat.blt i 80 then [9, 241] else [9, 242])))) else (bif Nat.blt i 85 then (bif Nat.blt i 83 then (bif Nat.blt i 82 then [9, 244] else [9, 245]) else (bif Nat.blt i 84 then [9, 248] else [9, 252])) else (bif Nat.blt i 87 then (bif Nat.blt i 86 then [9, 253] else [9, 254]) else (bif Nat.blt i 88 then [9, 255] else (bif Nat.blt i 89 then [9, 256] else [9, 257]))))) else (bif Nat.blt i 99 then (bif Nat.blt i 94 then (bif Nat.blt i 92 then (bif Nat.blt i 91 then [9, 258] else [9, 259]) else (bif Nat.blt i 93 then [9, 261] else [9, 262])) else (bif Nat.blt i 96 then (bif Nat.blt i 95 then [9, 264] else [9, 265]) else (bif Nat.blt i 97 then [9, 266] else (bif Nat.blt i 98 then [9, 267] else [9, 272])))) else (bif Nat.blt i 103 then (bif Nat.blt i 101 then (bif Nat.blt i 100 then [9, 275] else [9, 276]) else (bif Nat.blt i 102 then [9, 277] else [9, 278])) else (bif Nat.blt i 105 then (bif Nat.blt i 104 then [9, 279] else [9, 280]) else (bif Nat.blt i 106 then [9, 282] else (bif Nat.blt i 107 then [9, 283] else [9, 288])))))) else (bif Nat.blt i 126 then (bif Nat.blt i 117 then (bif Nat.blt i 112 then (bif Nat.blt i 110 then (bif Nat.blt i 109 then [9, 289] else [9, 290]) else (bif Nat.blt i 111 then [9, 293] else [9, 297])) else (bif Nat.blt i 114 then (bif Nat.blt i 113 then [9, 299] else [9, 300]) else (bif Nat.blt i 115 then [9, 301] else (bif Nat.blt i 116 then [9, 302] else [9, 303])))) else (bif Nat.blt i 121 then (bif Nat.blt i 119 then (bif Nat.blt i 118 then [9, 304] else [9, 309]) else (bif Nat.blt i 120 then [8, 13] else [8, 11])) else (bif Nat.blt i 123 then (bif Nat.blt i 122 then [8, 5] else [8, 10]) else (bif Nat.blt i 124 then [8, 3] else (bif Nat.blt i 125 then [8, 2] else [8, 9]))))) else (bif Nat.blt i 135 then (bif Nat.blt i 130 then (bif Nat.blt i 128 then (bif Nat.blt i 127 then [8, 4] else [8, 1]) else (bif Nat.blt i 129 then [8, 8] else [8, 7])) else (bif Nat.blt i 132 then (bif Nat.blt i 131 then [8, 6] else [8, 0]) else (bif Nat.blt i 133 then [8, 12] else (bif Nat.blt i 134 then [8, 14] else [])))) else (bif Nat.blt i 139 then (bif Nat.blt i 137 then (bif Nat.blt i 136 then [] else []) else (bif Nat.blt i 138 then [] else [8, 15])) else (bif Nat.blt i 141 then (bif Nat.blt i 140 then [] else []) else (bif Nat.blt i 142 then [] else (bif Nat.blt i 143 then [] else [])))))))) else (bif Nat.blt i 216 then (bif Nat.blt i 180 then (bif Nat.blt i 162 then (bif Nat.blt i 153 then (bif Nat.blt i 148 then (bif Nat.blt i 146 then (bif Nat.blt i 145 then [3, 13, 8, 11] else []) else (bif Nat.blt i 147 then [1, 13, 17, 166] else [6, 166])) else (bif Nat.blt i 150 then (bif Nat.blt i 149 then [10, 166] else []) else (bif Nat.blt i 151 then [] else (bif Nat.blt i 152 then [] else [3, 11, 11, 5])))) else (bif Nat.blt i 157 then (bif Nat.blt i 155 then (bif Nat.blt i 154 then [] else [1, 11, 13, 87]) else (bif Nat.blt i 156 then [6, 87] else [10, 87])) else (bif Nat.blt i 159 then (bif Nat.blt i 158 then [] else [0, 5, 9, 5, 0]) else (bif Nat.blt i 160 then [0, 7, 103, 5, 0] else (bif Nat.blt i 161 then [0, 1, 198, 5, 0] else [0, 11, 334, 5, 0]))))) else (bif Nat.blt i 171 then (bif Nat.blt i 166 then (bif Nat.blt i 164 then (bif Nat.blt i 163 then [0, 5, 15, 5, 1] else [0, 8, 37, 5, 1]) else (bif Nat.blt i 165 then [0, 11, 337, 5, 1] else [0, 5, 18, 5, 2])) else (bif Nat.blt i 168 then (bif Nat.blt i 167 then [0, 0, 108, 5, 2] else [0, 11, 247, 5, 2]) else (bif Nat.blt i 169 then [0, 5, 21, 5, 3] else (bif Nat.blt i 170 then [0, 1, 34, 5, 3] else [0, 11, 179, 5, 3])))) else (bif Nat.blt i 175 then (bif Nat.blt i 173 then (bif Nat.blt i 172 then [0, 5, 24, 5, 4] else [0, 8, 32, 5, 4]) else (bif Nat.blt i 174 then [0, 6, 29, 5, 4] else [0, 7, 76, 5, 4])) else (bif Nat.blt i 177 then (bif Nat.blt i 176 then [0, 5, 27, 5, 5] else [0, 5, 31, 5, 6]) else (bif Nat.blt i 178 then [0, 5, 34, 5, 7] else (bif Nat.blt i 179 then [0, 5, 37, 5, 8] else [0, 5, 40, 5, 9])))))) else (bif Nat.blt i 198 then (bif Nat.blt i 189 then (bif Nat.blt i 184 then (bif Nat.blt i 182 then (bif Nat.blt i 181 then [0, 5, 43, 5, 10] else [0, 5, 46, 5, 11]) else (bif Nat.blt i 183 then [0, 5, 49, 5, 12] else [0, 5, 52, 5, 13])) else (bif Nat.blt i 186 then (bif Nat.blt i 185 then [0, 5, 55, 5, 14] else [0, 5, 58, 5, 15]) else (bif Nat.blt i 187 then [0, 5, 61, 5, 16] else (bif Nat.blt i 188 then [] else [])))) else (bif Nat.blt i 193 then (bif Nat.blt i 191 then (bif Nat.blt i 190 then [] else []) else (bif Nat.blt i 192 then [] else [])) else (bif Nat.blt i 195 then (bif Nat.blt i 194 then [] else []) else (bif Nat.blt i 196 then [] else (bif Nat.blt i 197 then [] else []))))) else (bif Nat.blt i 207 then (bif Nat.blt i 202 then (bif Nat.blt i 200 then (bif Nat.blt i 199 then [] else []) else (bif Nat.blt i 201 then [] else [])) else (bif Nat.blt i 204 then (bif Nat.blt i 203 then [] else []) else (bif Nat.blt i 205 then [] else (bif Nat.blt i 206 then [] else [])))) else (bif Nat.blt i 211 then (bif Nat.blt i 209 then (bif Nat.blt i 208 then [] else []) else (bif Nat.blt i 210 then [] else [])) else (bif Nat.blt i 213 then (bif Nat.blt i 212 then [] else []) else (bif Nat.blt i 214 then [] else (bif Nat.blt i 215 then [] else []))))))) else (bif Nat.blt i 252 then (bif Nat.blt i 234 then (bif Nat.blt i 225 then (bif Nat.blt i 220 then (bif Nat.blt i 218 then (bif Nat.blt i 217 then [] else []) else (bif Nat.blt i 219 then [] else [])) else (bif Nat.blt i 222 then (bif Nat.blt i 221 then [] else []) else (bif Nat.blt i 223 then [] else (bif Nat.blt i 224 then [3, 11, 18, 10] else [])))) else (bif Nat.blt i 229 then (bif Nat.blt i 227 then (bif Nat.blt i 226 then [1, 11, 20, 153] else [6, 153]) else (bif Nat.blt i 228 then [10, 153] else [])) else (bif Nat.blt i 231 then (bif Nat.blt i 230 then [0, 10, 9, 10, 0] else [0, 11, 95, 10, 0]) else (bif Nat.blt i 232 then [0, 10, 15, 10, 1] else (bif Nat.blt i 233 then [0, 3, 78, 10, 1] else [0, 10, 18, 10, 2]))))) else (bif Nat.blt i 243 then (bif Nat.blt i 238 then (bif Nat.blt i 236 then (bif Nat.blt i 235 then [0, 3, 101, 10, 2] else [0, 10, 21, 10, 3]) else (bif Nat.blt i 237 then [0, 10, 25, 10, 4] else [0, 10, 28, 10, 5])) else (bif Nat.blt i 240 then (bif Nat.blt i 239 then [] else []) else (bif Nat.blt i 241 then [] else (bif Nat.blt i 242 then [] else [])))) else (bif Nat.blt i 247 then (bif Nat.blt i 245 then (bif Nat.blt i 244 then [] else []) else (bif Nat.blt i 246 then [] else [])) else (bif Nat.blt i 249 then (bif Nat.blt i 248 then [] else []) else (bif Nat.blt i 250 then [] else (bif Nat.blt i 251 then [] else [])))))) else (bif Nat.blt i 270 then (bif Nat.blt i 261 then (bif Nat.blt i 256 then (bif Nat.blt i 254 then (bif Nat.blt i 253 then [3, 11, 25, 3] else []) else (bif Nat.blt i 255 then [1, 11, 27, 46] else [6, 46])) else (bif Nat.blt i 258 then (bif Nat.blt i 257 then [10, 46] else []) else (bif Nat.blt i 259 then [0, 3, 9, 3, 0] else (bif Nat.blt i 260 then [0, 11, 110, 3, 0] else [0, 3, 15, 3, 1])))) else (bif Nat.blt i 265 then (bif Nat.blt i 263 then (bif Nat.blt i 262 then [0, 11, 120, 3, 1] else [0, 3, 18, 3, 2]) else (bif Nat.blt i 264 then [0, 2, 24, 3, 2] else [0, 11, 117, 3, 2])) else (bif Nat.blt i 267 then (bif Nat.blt i 266 then [0, 3, 21, 3, 3] else [0, 3, 24, 3, 4]) else (bif Nat.blt i 268 then [0, 2, 35, 3, 4] else (bif Nat.blt i 269 then [0, 3, 28, 3, 5] else [0, 2, 38, 3, 5]))))) else (bif Nat.blt i 279 then (bif Nat.blt i 274 then (bif Nat.blt i 272 then (bif Nat.blt i 271 then [0, 3, 31, 3, 6] else [0, 2, 41, 3, 6]) else (bif Nat.blt i 273 then [0, 3, 52, 3, 7] else [0, 3, 34, 3, 8])) else (bif Nat.blt i 276 then (bif Nat.blt i 275 then [0, 3, 37, 3, 9] else [0, 3, 40, 3, 10]) else (bif Nat.blt i 277 then [0, 3, 43, 3, 11] else (bif Nat.blt i 278 then [0, 3, 46, 3, 12] else [0, 3, 49, 3, 13])))) else (bif Nat.blt i 284 then (bif Nat.blt i 281 then (bif Nat.blt i 280 then [] else []) else (bif Nat.blt i 282 then [] else (bif Nat.blt i 283 then [] else []))) else (bif Nat.blt i 286 then (bif Nat.blt i 285 then [] else []) else (bif Nat.blt i 287 then [] else (bif Nat.blt i 288 then [] else []))))))))) else (bif Nat.blt i 433 then (bif Nat.blt i 361 then (bif Nat.blt i 325 then (bif Nat.blt i 307 then (bif Nat.blt i 298 then (bif Nat.blt i 293 then (bif Nat.blt i 291 then (bif Nat.blt i 290 then [] else []) else (bif Nat.blt i 292 then [] else [])) else (bif Nat.blt i 295 then (bif Nat.blt i 294 then [] else []) else (bif Nat.blt i 296 then [] else (bif Nat.blt i 297 then [] else [])))) else (bif Nat.blt i 302 then (bif Nat.blt i 300 then (bif Nat.blt i 299 then [] else []) else (bif Nat.blt i 301 then [] else [])) else (bif Nat.blt i 304 then (bif Nat.blt i 303 then [] else []) else (bif Nat.blt i 305 then [] else (bif Nat.blt i 306 then [] else []))))) else (bif Nat.blt i 316 then (bif Nat.blt i 311 then (bif Nat.blt i 309 then (bif Nat.blt i 308 then [] else [3, 11, 34, 2]) else (bif Nat.blt i 310 then [] else [1, 11, 36, 39])) else (bif Nat.blt i 313 then (bif Nat.blt i 312 then [6, 39] else [10, 39]) else (bif Nat.blt i 314 then [] else (bif Nat.blt i 315 then [0, 2, 9, 2, 0] else [0, 2, 15, 2, 1])))) else (bif Nat.blt i 320 then (bif Nat.blt i 318 then (bif Nat.blt i 317 then [0, 2, 18, 2, 2] else [0, 2, 21, 2, 3]) else (bif Nat.blt i 319 then [] else [])) else (bif Nat.blt i 322 then (bif Nat.blt i 321 then [] else []) else (bif Nat.blt i 323 then [] else (bif Nat.blt i 324 then [] else [])))))) else (bif Nat.blt i 343 then (bif Nat.blt i 334 then (bif Nat.blt i 329 then (bif Nat.blt i 327 then (bif Nat.blt i 326 then [] else []) else (bif Nat.blt i 328 then [3, 11, 41, 9] else [])) else (bif Nat.blt i 331 then (bif Nat.blt i 330 then [1, 11, 43, 150] else [6, 150]) else (bif Nat.blt i 332 then [10, 150] else (bif Nat.blt i 333 then [] else [0, 9, 9, 9, 0])))) else (bif Nat.blt i 338 then (bif Nat.blt i 336 then (bif Nat.blt i 335 then [0, 11, 344, 9, 0] else [0, 9, 15, 9, 1]) else (bif Nat.blt i 337 then [0, 9, 19, 9, 2] else [0, 9, 22, 9, 3])) else (bif Nat.blt i 340 then (bif Nat.blt i 339 then [0, 9, 25, 9, 4] else []) else (bif Nat.blt i 341 then [] else (bif Nat.blt i 342 then [] else []))))) else (bif Nat.blt i 352 then (bif Nat.blt i 347 then (bif Nat.blt i 345 then (bif Nat.blt i 344 then [] else []) else (bif Nat.blt i 346 then [] else [])) else (bif Nat.blt i 349 then (bif Nat.blt i 348 then [] else []) else (bif Nat.blt i 350 then [] else (bif Nat.blt i 351 then [3, 11, 48, 4] else [])))) else (bif Nat.blt i 356 then (bif Nat.blt i 354 then (bif Nat.blt i 353 then [1, 11, 50, 63] else [6, 63]) else (bif Nat.blt i 355 then [10, 63] else [])) else (bif Nat.blt i 358 then (bif Nat.blt i 357 then [0, 4, 9, 4, 0] else [0, 1, 39, 4, 0]) else (bif Nat.blt i 359 then [0, 11, 340, 4, 0] else (bif Nat.blt i 360 then [0, 4, 15, 4, 1] else [0, 4, 19, 4, 2]))))))) else (bif Nat.blt i 397 then (bif Nat.blt i 379 then (bif Nat.blt i 370 then (bif Nat.blt i 365 then (bif Nat.blt i 363 then (bif Nat.blt i 362 then [0, 4, 22, 4, 3] else [0, 4, 25, 4, 4]) else (bif Nat.blt i 364 then [0, 4, 28, 4, 5] else [0, 4, 31, 4, 6])) else (bif Nat.blt i 367 then (bif Nat.blt i 366 then [0, 4, 34, 4, 7] else [0, 4, 37, 4, 8]) else (bif Nat.blt i 368 then [0, 4, 40, 4, 9] else (bif Nat.blt i 369 then [0, 4, 43, 4, 10] else [0, 4, 46, 4, 11])))) else (bif Nat.blt i 374 then (bif Nat.blt i 372 then (bif Nat.blt i 371 then [0, 4, 49, 4, 12] else [0, 4, 52, 4, 13]) else (bif Nat.blt i 373 then [] else [])) else (bif Nat.blt i 376 then (bif Nat.blt i 375 then [] else []) else (bif Nat.blt i 377 then [] else (bif Nat.blt i 378 then [] else []))))) else (bif Nat.blt i 388 then (bif Nat.blt i 383 then (bif Nat.blt i 381 then (bif Nat.blt i 380 then [] else []) else (bif Nat.blt i 382 then [] else [])) else (bif Nat.blt i 385 then (bif Nat.blt i 384 then [] else []) else (bif Nat.blt i 386 then [] else (bif Nat.blt i 387 then [] else [])))) else (bif Nat.blt i 392 then (bif Nat.blt i 390 then (bif Nat.blt i 389 then [] else []) else (bif Nat.blt i 391 then [] else [])) else (bif Nat.blt i 394 then (bif Nat.blt i 393 then [] else []) else (bif Nat.blt i 395 then [] else (bif Nat.blt i 396 then [] else [])))))) else (bif Nat.blt i 415 then (bif Nat.blt i 406 then (bif Nat.blt i 401 then (bif Nat.blt i 399 then (bif Nat.blt i 398 then [] else []) else (bif Nat.blt i 400 then [] else [])) else (bif Nat.blt i 403 then (bif Nat.blt i 402 then [3, 11, 55, 1] else []) else (bif Nat.blt i 404 then [1, 11, 57, 21] else (bif Nat.blt i 405 then [6, 21] else [10, 21])))) else (bif Nat.blt i 410 then (bif Nat.blt i 408 then (bif Nat.blt i 407 then [] else [0, 1, 22, 1, 0]) else (bif Nat.blt i 409 then [0, 1, 26, 1, 1] else [0, 1, 30, 1, 2])) else (bif Nat.blt i 412 then (bif Nat.blt i 411 then [0, 1, 9, 1, 3] else [0, 1, 15, 1, 4]) else (bif Nat.blt i 413 then [0, 1, 18, 1, 5] else (bif Nat.blt i 414 then [] else []))))) else (bif Nat.blt i 424 then (bif Nat.blt i 419 then (bif Nat.blt i 417 then (bif Nat.blt i 416 then [] else []) else (bif Nat.blt i 418 then [] else [])) else (bif Nat.blt i 421 then (bif Nat.blt i 420 then [] else []) else (bif Nat.blt i 422 then [] else (bif Nat.blt i 423 then [] else [])))) else (bif Nat.blt i 428 then (bif Nat.blt i 426 then (bif Nat.blt i 425 then [] else []) else (bif Nat.blt i 427 then [] else [3, 11, 64, 8])) else (bif Nat.blt i 430 then (bif Nat.blt i 429 then [] else [1, 11, 66, 144]) else (bif Nat.blt i 431 then [6, 144] else (bif Nat.blt i 432 then [10, 144] else [])))))))) else (bif Nat.blt i 505 then (bif Nat.blt i 469 then (bif Nat.blt i 451 then (bif Nat.blt i 442 then (bif Nat.blt i 437 then (bif Nat.blt i 435 then (bif Nat.blt i 434 then [0, 8, 28, 8, 0] else [0, 8, 11, 8, 1]) else (bif Nat.blt i 436 then [0, 8, 15, 8, 2] else [0, 8, 18, 8, 3])) else (bif Nat.blt i 439 then (bif Nat.blt i 438 then [0, 8, 22, 8, 4] else [0, 8, 25, 8, 5]) else (bif Nat.blt i 440 then [] else (bif Nat.blt i 441 then [] else [])))) else (bif Nat.blt i 446 then (bif Nat.blt i 444 then (bif Nat.blt i 443 then [] else []) else (bif Nat.blt i 445 then [] else [])) else (bif Nat.blt i 448 then (bif Nat.blt i 447 then [] else []) else (bif Nat.blt i 449 then [] else (bif Nat.blt i 450 then [] else []))))) else (bif Nat.blt i 460 then (bif Nat.blt i 455 then (bif Nat.blt i 453 then (bif Nat.blt i 452 then [] else [3, 11, 69, 7]) else (bif Nat.blt i 454 then [] else [1, 11, 71, 127])) else (bif Nat.blt i 457 then (bif Nat.blt i 456 then [6, 127] else [10, 127]) else (bif Nat.blt i 458 then [] else (bif Nat.blt i 459 then [0, 7, 68, 7, 0] else [0, 7, 72, 7, 1])))) else (bif Nat.blt i 464 then (bif Nat.blt i 462 then (bif Nat.blt i 461 then [0, 7, 9, 7, 2] else [0, 7, 15, 7, 3]) else (bif Nat.blt i 463 then [0, 7, 18, 7, 4] else [0, 7, 21, 7, 5])) else (bif Nat.blt i 466 then (bif Nat.blt i 465 then [0, 7, 24, 7, 6] else [0, 7, 28, 7, 7]) else (bif Nat.blt i 467 then [0, 7, 31, 7, 8] else (bif Nat.blt i 468 then [0, 7, 34, 7, 9] else [0, 7, 37, 7, 10])))))) else (bif Nat.blt i 487 then (bif Nat.blt i 478 then (bif Nat.blt i 473 then (bif Nat.blt i 471 then (bif Nat.blt i 470 then [0, 7, 40, 7, 11] else [0, 7, 43, 7, 12]) else (bif Nat.blt i 472 then [0, 7, 46, 7, 13] else [0, 7, 49, 7, 14])) else (bif Nat.blt i 475 then (bif Nat.blt i 474 then [0, 7, 52, 7, 15] else [0, 7, 55, 7, 16]) else (bif Nat.blt i 476 then [0, 7, 59, 7, 17] else (bif Nat.blt i 477 then [0, 7, 62, 7, 18] else [0, 7, 65, 7, 19])))) else (bif Nat.blt i 482 then (bif Nat.blt i 480 then (bif Nat.blt i 479 then [] else []) else (bif Nat.blt i 481 then [] else [])) else (bif Nat.blt i 484 then (bif Nat.blt i 483 then [] else []) else (bif Nat.blt i 485 then [] else (bif Nat.blt i 486 then [] else []))))) else (bif Nat.blt i 496 then (bif Nat.blt i 491 then (bif Nat.blt i 489 then (bif Nat.blt i 488 then [] else []) else (bif Nat.blt i 490 then [] else [])) else (bif Nat.blt i 493 then (bif Nat.blt i 492 then [] else []) else (bif Nat.blt i 494 then [] else (bif Nat.blt i 495 then [] else [])))) else (bif Nat.blt i 500 then (bif Nat.blt i 498 then (bif Nat.blt i 497 then [] else []) else (bif Nat.blt i 499 then [] else [])) else (bif Nat.blt i 502 then (bif Nat.blt i 501 then [] else []) else (bif Nat.blt i 503 then [] else (bif Nat.blt i 504 then [] else []))))))) else (bif Nat.blt i 541 then (bif Nat.blt i 523 then (bif Nat.blt i 514 then (bif Nat.blt i 509 then (bif Nat.blt i 507 then (bif Nat.blt i 506 then [] else []) else (bif Nat.blt i 508 then [] else [])) else (bif Nat.blt i 511 then (bif Nat.blt i 510 then [] else []) else (bif Nat.blt i 512 then [] else (bif Nat.blt i 513 then [] else [])))) else (bif Nat.blt i 518 then (bif Nat.blt i 516 then (bif Nat.blt i 515 then [] else []) else (bif Nat.blt i 517 then [] else [])) else (bif Nat.blt i 520 then (bif Nat.blt i 519 then [] else [3, 11, 81, 6]) else (bif Nat.blt i 521 then [] else (bif Nat.blt i 522 then [1, 11, 83, 118] else [6, 118]))))) else (bif Nat.blt i 532 then (bif Nat.blt i 527 then (bif Nat.blt i 525 then (bif Nat.blt i 524 then [10, 118] else []) else (bif Nat.blt i 526 then [0, 6, 25, 6, 0] else [0, 6, 9, 6, 1])) else (bif Nat.blt i 529 then (bif Nat.blt i 528 then [0, 6, 15, 6, 2] else [0, 6, 18, 6, 3]) else (bif Nat.blt i 530 then [0, 6, 22, 6, 4] else (bif Nat.blt i 531 then [] else [])))) else (bif Nat.blt i 536 then (bif Nat.blt i 534 then (bif Nat.blt i 533 then [] else []) else (bif Nat.blt i 535 then [] else [])) else (bif Nat.blt i 538 then (bif Nat.blt i 537 then [] else []) else (bif Nat.blt i 539 then [] else (bif Nat.blt i 540 then [] else [])))))) else (bif Nat.blt i 559 then (bif Nat.blt i 550 then (bif Nat.blt i 545 then (bif Nat.blt i 543 then (bif Nat.blt i 542 then [3, 11, 88, 0] else []) else (bif Nat.blt i 544 then [1, 11, 90, 0] else [6, 0])) else (bif Nat.blt i 547 then (bif Nat.blt i 546 then [10, 0] else []) else (bif Nat.blt i 548 then [0, 0, 9, 0, 0] else (bif Nat.blt i 549 then [0, 11, 343, 0, 0] else [0, 0, 43, 0, 1])))) else (bif Nat.blt i 554 then (bif Nat.blt i 552 then (bif Nat.blt i 551 then [0, 0, 15, 0, 2] else [0, 0, 19, 0, 3]) else (bif Nat.blt i 553 then [0, 0, 22, 0, 4] else [0, 0, 25, 0, 5])) else (bif Nat.blt i 556 then (bif Nat.blt i 555 then [0, 0, 28, 0, 6] else [0, 0, 31, 0, 7]) else (bif Nat.blt i 557 then [0, 0, 34, 0, 8] else (bif Nat.blt i 558 then [0, 0, 37, 0, 9] else [0, 0, 40, 0, 10]))))) else (bif Nat.blt i 568 then (bif Nat.blt i 563 then (bif Nat.blt i 561 then (bif Nat.blt i 560 then [] else []) else (bif Nat.blt i 562 then [] else [])) else (bif Nat.blt i 565 then (bif Nat.blt i 564 then [] else []) else (bif Nat.blt i 566 then [] else (bif Nat.blt i 567 then [] else [])))) else (bif Nat.blt i 573 then (bif Nat.blt i 570 then (bif Nat.blt i 569 then [] else []) else (bif Nat.blt i 571 then [] else (bif Nat.blt i 572 then [] else []))) else (bif Nat.blt i 575 then (bif Nat.blt i 574 then [] else []) else (bif Nat.blt i 576 then [] else (bif Nat.blt i 577 then [] else [])))))))))) else (bif Nat.blt i 867 then (bif Nat.blt i 722 then (bif Nat.blt i 650 then (bif Nat.blt i 614 then (bif Nat.blt i 596 then (bif Nat.blt i 587 then (bif Nat.blt i 582 then (bif Nat.blt i 580 then (bif Nat.blt i 579 then [] else []) else (bif Nat.blt i 581 then [] else [])) else (bif Nat.blt i 584 then (bif Nat.blt i 583 then [0, 11, 14, 11, 0] else [0, 11, 21, 11, 1]) else (bif Nat.blt i 585 then [0, 11, 30, 11, 2] else (bif Nat.blt i 586 then [0, 11, 37, 11, 3] else [0, 11, 44, 11, 4])))) else (bif Nat.blt i 591 then (bif Nat.blt i 589 then (bif Nat.blt i 588 then [0, 11, 51, 11, 5] else [0, 11, 60, 11, 6]) else (bif Nat.blt i 590 then [0, 11, 74, 11, 7] else [0, 11, 78, 11, 8])) else (bif Nat.blt i 593 then (bif Nat.blt i 592 then [0, 11, 84, 11, 9] else [0, 11, 91, 11, 10]) else (bif Nat.blt i 594 then [] else (bif Nat.blt i 595 then [] else []))))) else (bif Nat.blt i 605 then (bif Nat.blt i 600 then (bif Nat.blt i 598 then (bif Nat.blt i 597 then [] else []) else (bif Nat.blt i 599 then [] else [])) else (bif Nat.blt i 602 then (bif Nat.blt i 601 then [] else []) else (bif Nat.blt i 603 then [] else (bif Nat.blt i 604 then [] else [])))) else (bif Nat.blt i 609 then (bif Nat.blt i 607 then (bif Nat.blt i 606 then [] else []) else (bif Nat.blt i 608 then [] else [])) else (bif Nat.blt i 611 then (bif Nat.blt i 610 then [] else []) else (bif Nat.blt i 612 then [] else (bif Nat.blt i 613 then [] else [])))))) else (bif Nat.blt i 632 then (bif Nat.blt i 623 then (bif Nat.blt i 618 then (bif Nat.blt i 616 then (bif Nat.blt i 615 then [] else []) else (bif Nat.blt i 617 then [1, 13, 21, 167] else [6, 167])) else (bif Nat.blt i 620 then (bif Nat.blt i 619 then [9, 167] else [10, 167]) else (bif Nat.blt i 621 then [1, 11, 99, 154] else (bif Nat.blt i 622 then [6, 154] else [9, 154])))) else (bif Nat.blt i 627 then (bif Nat.blt i 625 then (bif Nat.blt i 624 then [10, 154] else [1, 13, 26, 168]) else (bif Nat.blt i 626 then [6, 168] else [9, 168])) else (bif Nat.blt i 629 then (bif Nat.blt i 628 then [10, 168] else [1, 11, 103, 88]) else (bif Nat.blt i 630 then [6, 88] else (bif Nat.blt i 631 then [9, 88] else [10, 88]))))) else (bif Nat.blt i 641 then (bif Nat.blt i 636 then (bif Nat.blt i 634 then (bif Nat.blt i 633 then [1, 11, 107, 47] else [6, 47]) else (bif Nat.blt i 635 then [9, 47] else [10, 47])) else (bif Nat.blt i 638 then (bif Nat.blt i 637 then [1, 3, 56, 155] else [6, 155]) else (bif Nat.blt i 639 then [9, 155] else (bif Nat.blt i 640 then [10, 155] else [1, 10, 31, 312])))) else (bif Nat.blt i 645 then (bif Nat.blt i 643 then (bif Nat.blt i 642 then [7, 312] else [10, 312]) else (bif Nat.blt i 644 then [1, 10, 37, 311] else [7, 311])) else (bif Nat.blt i 647 then (bif Nat.blt i 646 then [10, 311] else [1, 3, 62, 156]) else (bif Nat.blt i 648 then [6, 156] else (bif Nat.blt i 649 then [9, 156] else [10, 156]))))))) else (bif Nat.blt i 686 then (bif Nat.blt i 668 then (bif Nat.blt i 659 then (bif Nat.blt i 654 then (bif Nat.blt i 652 then (bif Nat.blt i 651 then [1, 10, 40, 157] else []) else (bif Nat.blt i 653 then [6, 157] else [10, 157])) else (bif Nat.blt i 656 then (bif Nat.blt i 655 then [1, 10, 44, 158] else [7, 158]) else (bif Nat.blt i 657 then [10, 158] else (bif Nat.blt i 658 then [1, 10, 48, 159] else [7, 159])))) else (bif Nat.blt i 663 then (bif Nat.blt i 661 then (bif Nat.blt i 660 then [10, 159] else [1, 10, 51, 160]) else (bif Nat.blt i 662 then [] else [6, 160])) else (bif Nat.blt i 665 then (bif Nat.blt i 664 then [10, 160] else []) else (bif Nat.blt i 666 then [] else (bif Nat.blt i 667 then [] else []))))) else (bif Nat.blt i 677 then (bif Nat.blt i 672 then (bif Nat.blt i 670 then (bif Nat.blt i 669 then [] else []) else (bif Nat.blt i 671 then [] else [])) else (bif Nat.blt i 674 then (bif Nat.blt i 673 then [] else []) else (bif Nat.blt i 675 then [] else (bif Nat.blt i 676 then [] else [])))) else (bif Nat.blt i 681 then (bif Nat.blt i 679 then (bif Nat.blt i 678 then [] else []) else (bif Nat.blt i 680 then [] else [])) else (bif Nat.blt i 683 then (bif Nat.blt i 682 then [] else []) else (bif Nat.blt i 684 then [] else (bif Nat.blt i 685 then [] else [])))))) else (bif Nat.blt i 704 then (bif Nat.blt i 695 then (bif Nat.blt i 690 then (bif Nat.blt i 688 then (bif Nat.blt i 687 then [] else []) else (bif Nat.blt i 689 then [] else [])) else (bif Nat.blt i 692 then (bif Nat.blt i 691 then [] else []) else (bif Nat.blt i 693 then [] else (bif Nat.blt i 694 then [] else [])))) else (bif Nat.blt i 699 then (bif Nat.blt i 697 then (bif Nat.blt i 696 then [] else []) else (bif Nat.blt i 698 then [] else [])) else (bif Nat.blt i 701 then (bif Nat.blt i 700 then [] else []) else (bif Nat.blt i 702 then [] else (bif Nat.blt i 703 then [] else []))))) else (bif Nat.blt i 713 then (bif Nat.blt i 708 then (bif Nat.blt i 706 then (bif Nat.blt i 705 then [] else []) else (bif Nat.blt i 707 then [] else [])) else (bif Nat.blt i 710 then (bif Nat.blt i 709 then [] else []) else (bif Nat.blt i 711 then [] else (bif Nat.blt i 712 then [] else [])))) else (bif Nat.blt i 717 then (bif Nat.blt i 715 then (bif Nat.blt i 714 then [1, 10, 55, 161] else [7, 161]) else (bif Nat.blt i 716 then [10, 161] else [1, 10, 58, 162])) else (bif Nat.blt i 719 then (bif Nat.blt i 718 then [] else [6, 162]) else (bif Nat.blt i 720 then [10, 162] else (bif Nat.blt i 721 then [] else [1, 10, 61, 163])))))))) else (bif Nat.blt i 794 then (bif Nat.blt i 758 then (bif Nat.blt i 740 then (bif Nat.blt i 731 then (bif Nat.blt i 726 then (bif Nat.blt i 724 then (bif Nat.blt i 723 then [] else [6, 163]) else (bif Nat.blt i 725 then [10, 163] else [1, 10, 75, 164])) else (bif Nat.blt i 728 then (bif Nat.blt i 727 then [] else [6, 164]) else (bif Nat.blt i 729 then [10, 164] else (bif Nat.blt i 730 then [1, 10, 78, 165] else [])))) else (bif Nat.blt i 735 then (bif Nat.blt i 733 then (bif Nat.blt i 732 then [6, 165] else [10, 165]) else (bif Nat.blt i 734 then [1, 3, 66, 48] else [])) else (bif Nat.blt i 737 then (bif Nat.blt i 736 then [6, 48] else [10, 48]) else (bif Nat.blt i 738 then [1, 3, 69, 49] else (bif Nat.blt i 739 then [] else [6, 49]))))) else (bif Nat.blt i 749 then (bif Nat.blt i 744 then (bif Nat.blt i 742 then (bif Nat.blt i 741 then [10, 49] else [1, 3, 81, 50]) else (bif Nat.blt i 743 then [] else [6, 50])) else (bif Nat.blt i 746 then (bif Nat.blt i 745 then [10, 50] else [1, 3, 72, 51]) else (bif Nat.blt i 747 then [] else (bif Nat.blt i 748 then [6, 51] else [10, 51])))) else (bif Nat.blt i 753 then (bif Nat.blt i 751 then (bif Nat.blt i 750 then [1, 3, 108, 52] else []) else (bif Nat.blt i 752 then [6, 52] else [10, 52])) else (bif Nat.blt i 755 then (bif Nat.blt i 754 then [1, 3, 87, 53] else []) else (bif Nat.blt i 756 then [6, 53] else (bif Nat.blt i 757 then [10, 53] else [1, 3, 127, 54])))))) else (bif Nat.blt i 776 then (bif Nat.blt i 767 then (bif Nat.blt i 762 then (bif Nat.blt i 760 then (bif Nat.blt i 759 then [7, 54] else [10, 54]) else (bif Nat.blt i 761 then [1, 3, 115, 55] else [])) else (bif Nat.blt i 764 then (bif Nat.blt i 763 then [6, 55] else [10, 55]) else (bif Nat.blt i 765 then [1, 3, 91, 56] else (bif Nat.blt i 766 then [] else [6, 56])))) else (bif Nat.blt i 771 then (bif Nat.blt i 769 then (bif Nat.blt i 768 then [10, 56] else [1, 3, 105, 57]) else (bif Nat.blt i 770 then [] else [6, 57])) else (bif Nat.blt i 773 then (bif Nat.blt i 772 then [10, 57] else [2, 3, 111, 169]) else (bif Nat.blt i 774 then [7, 169] else (bif Nat.blt i 775 then [10, 169] else [1, 3, 118, 311]))))) else (bif Nat.blt i 785 then (bif Nat.blt i 780 then (bif Nat.blt i 778 then (bif Nat.blt i 777 then [1, 3, 124, 58] else []) else (bif Nat.blt i 779 then [6, 58] else [10, 58])) else (bif Nat.blt i 782 then (bif Nat.blt i 781 then [1, 3, 75, 59] else []) else (bif Nat.blt i 783 then [6, 59] else (bif Nat.blt i 784 then [10, 59] else [1, 3, 84, 60])))) else (bif Nat.blt i 789 then (bif Nat.blt i 787 then (bif Nat.blt i 786 then [] else [6, 60]) else (bif Nat.blt i 788 then [10, 60] else [])) else (bif Nat.blt i 791 then (bif Nat.blt i 790 then [1, 3, 94, 61] else []) else (bif Nat.blt i 792 then [6, 61] else (bif Nat.blt i 793 then [10, 61] else [1, 3, 97, 62]))))))) else (bif Nat.blt i 830 then (bif Nat.blt i 812 then (bif Nat.blt i 803 then (bif Nat.blt i 798 then (bif Nat.blt i 796 then (bif Nat.blt i 795 then [] else [6, 62]) else (bif Nat.blt i 797 then [10, 62] else [1, 11, 113, 40])) else (bif Nat.blt i 800 then (bif Nat.blt i 799 then [6, 40] else [9, 40]) else (bif Nat.blt i 801 then [10, 40] else (bif Nat.blt i 802 then [1, 2, 29, 312] else [1, 13, 30, 170])))) else (bif Nat.blt i 807 then (bif Nat.blt i 805 then (bif Nat.blt i 804 then [6, 170] else [9, 170]) else (bif Nat.blt i 806 then [10, 170] else [1, 13, 35, 171])) else (bif Nat.blt i 809 then (bif Nat.blt i 808 then [6, 171] else [9, 171]) else (bif Nat.blt i 810 then [10, 171] else (bif Nat.blt i 811 then [1, 11, 123, 89] else [6, 89]))))) else (bif Nat.blt i 821 then (bif Nat.blt i 816 then (bif Nat.blt i 814 then (bif Nat.blt i 813 then [9, 89] else [10, 89]) else (bif Nat.blt i 815 then [1, 13, 39, 172] else [6, 172])) else (bif Nat.blt i 818 then (bif Nat.blt i 817 then [9, 172] else [10, 172]) else (bif Nat.blt i 819 then [1, 11, 127, 90] else (bif Nat.blt i 820 then [6, 90] else [9, 90])))) else (bif Nat.blt i 825 then (bif Nat.blt i 823 then (bif Nat.blt i 822 then [10, 90] else [1, 11, 130, 91]) else (bif Nat.blt i 824 then [6, 91] else [9, 91])) else (bif Nat.blt i 827 then (bif Nat.blt i 826 then [10, 91] else [1, 5, 72, 90]) else (bif Nat.blt i 828 then [2, 5, 68, 169] else (bif Nat.blt i 829 then [1, 11, 134, 92] else [6, 92])))))) else (bif Nat.blt i 848 then (bif Nat.blt i 839 then (bif Nat.blt i 834 then (bif Nat.blt i 832 then (bif Nat.blt i 831 then [9, 92] else [10, 92]) else (bif Nat.blt i 833 then [1, 13, 44, 173] else [6, 173])) else (bif Nat.blt i 836 then (bif Nat.blt i 835 then [9, 173] else [10, 173]) else (bif Nat.blt i 837 then [1, 11, 138, 93] else (bif Nat.blt i 838 then [6, 93] else [9, 93])))) else (bif Nat.blt i 843 then (bif Nat.blt i 841 then (bif Nat.blt i 840 then [10, 93] else [1, 13, 48, 174]) else (bif Nat.blt i 842 then [6, 174] else [9, 174])) else (bif Nat.blt i 845 then (bif Nat.blt i 844 then [10, 174] else [1, 11, 142, 94]) else (bif Nat.blt i 846 then [6, 94] else (bif Nat.blt i 847 then [9, 94] else [10, 94]))))) else (bif Nat.blt i 857 then (bif Nat.blt i 852 then (bif Nat.blt i 850 then (bif Nat.blt i 849 then [1, 5, 64, 88] else [1, 11, 145, 95]) else (bif Nat.blt i 851 then [6, 95] else [9, 95])) else (bif Nat.blt i 854 then (bif Nat.blt i 853 then [10, 95] else [1, 11, 148, 96]) else (bif Nat.blt i 855 then [6, 96] else (bif Nat.blt i 856 then [9, 96] else [10, 96])))) else (bif Nat.blt i 862 then (bif Nat.blt i 859 then (bif Nat.blt i 858 then [1, 11, 151, 97] else [6, 97]) else (bif Nat.blt i 860 then [9, 97] else (bif Nat.blt i 861 then [10, 97] else [1, 13, 52, 175]))) else (bif Nat.blt i 864 then (bif Nat.blt i 863 then [6, 175] else [9, 175]) else (bif Nat.blt i 865 then [10, 175] else (bif Nat.blt i 866 then [1, 11, 155, 98] else [6, 98]))))))))) else (bif Nat.blt i 1012 then (bif Nat.blt i 939 then (bif Nat.blt i 903 then (bif Nat.blt i 885 then (bif Nat.blt i 876 then (bif Nat.blt i 871 then (bif Nat.blt i 869 then (bif Nat.blt i 868 then [9, 98] else [10, 98]) else (bif Nat.blt i 870 then [1, 11, 158, 169] else [1, 11, 161, 314])) else (bif Nat.blt i 873 then (bif Nat.blt i 872 then [7, 314] else [10, 314]) else (bif Nat.blt i 874 then [] else (bif Nat.blt i 875 then [] else [])))) else (bif Nat.blt i 880 then (bif Nat.blt i 878 then (bif Nat.blt i 877 then [1, 11, 166, 99] else [6, 99]) else (bif Nat.blt i 879 then [9, 99] else [10, 99])) else (bif Nat.blt i 882 then (bif Nat.blt i 881 then [1, 13, 57, 176] else [6, 176]) else (bif Nat.blt i 883 then [9, 176] else (bif Nat.blt i 884 then [10, 176] else [1, 11, 169, 100]))))) else (bif Nat.blt i 894 then (bif Nat.blt i 889 then (bif Nat.blt i 887 then (bif Nat.blt i 886 then [6, 100] else [9, 100]) else (bif Nat.blt i 888 then [10, 100] else [1, 13, 62, 177])) else (bif Nat.blt i 891 then (bif Nat.blt i 890 then [6, 177] else [9, 177]) else (bif Nat.blt i 892 then [10, 177] else (bif Nat.blt i 893 then [1, 11, 172, 101] else [6, 101])))) else (bif Nat.blt i 898 then (bif Nat.blt i 896 then (bif Nat.blt i 895 then [9, 101] else [10, 101]) else (bif Nat.blt i 897 then [1, 13, 66, 178] else [6, 178])) else (bif Nat.blt i 900 then (bif Nat.blt i 899 then [9, 178] else [10, 178]) else (bif Nat.blt i 901 then [1, 11, 175, 102] else (bif Nat.blt i 902 then [6, 102] else [9, 102])))))) else (bif Nat.blt i 921 then (bif Nat.blt i 912 then (bif Nat.blt i 907 then (bif Nat.blt i 905 then (bif Nat.blt i 904 then [10, 102] else [1, 11, 182, 64]) else (bif Nat.blt i 906 then [6, 64] else [9, 64])) else (bif Nat.blt i 909 then (bif Nat.blt i 908 then [10, 64] else [1, 11, 186, 65]) else (bif Nat.blt i 910 then [6, 65] else (bif Nat.blt i 911 then [9, 65] else [10, 65])))) else (bif Nat.blt i 916 then (bif Nat.blt i 914 then (bif Nat.blt i 913 then [1, 4, 55, 66] else [6, 66]) else (bif Nat.blt i 915 then [9, 66] else [10, 66])) else (bif Nat.blt i 918 then (bif Nat.blt i 917 then [1, 11, 189, 67] else [6, 67]) else (bif Nat.blt i 919 then [9, 67] else (bif Nat.blt i 920 then [10, 67] else [1, 4, 59, 64]))))) else (bif Nat.blt i 930 then (bif Nat.blt i 925 then (bif Nat.blt i 923 then (bif Nat.blt i 922 then [1, 11, 193, 68] else [6, 68]) else (bif Nat.blt i 924 then [9, 68] else [10, 68])) else (bif Nat.blt i 927 then (bif Nat.blt i 926 then [1, 13, 71, 179] else [6, 179]) else (bif Nat.blt i 928 then [9, 179] else (bif Nat.blt i 929 then [10, 179] else [1, 11, 197, 180])))) else (bif Nat.blt i 934 then (bif Nat.blt i 932 then (bif Nat.blt i 931 then [7, 180] else [10, 180]) else (bif Nat.blt i 933 then [1, 11, 200, 151] else [6, 151])) else (bif Nat.blt i 936 then (bif Nat.blt i 935 then [9, 151] else [10, 151]) else (bif Nat.blt i 937 then [1, 11, 203, 69] else (bif Nat.blt i 938 then [6, 69] else [9, 69]))))))) else (bif Nat.blt i 975 then (bif Nat.blt i 957 then (bif Nat.blt i 948 then (bif Nat.blt i 943 then (bif Nat.blt i 941 then (bif Nat.blt i 940 then [10, 69] else [1, 13, 76, 181]) else (bif Nat.blt i 942 then [6, 181] else [9, 181])) else (bif Nat.blt i 945 then (bif Nat.blt i 944 then [10, 181] else [1, 11, 206, 152]) else (bif Nat.blt i 946 then [6, 152] else (bif Nat.blt i 947 then [9, 152] else [10, 152])))) else (bif Nat.blt i 952 then (bif Nat.blt i 950 then (bif Nat.blt i 949 then [1, 13, 81, 182] else [6, 182]) else (bif Nat.blt i 951 then [9, 182] else [10, 182])) else (bif Nat.blt i 954 then (bif Nat.blt i 953 then [1, 11, 210, 22] else [6, 22]) else (bif Nat.blt i 955 then [9, 22] else (bif Nat.blt i 956 then [10, 22] else [1, 1, 44, 70]))))) else (bif Nat.blt i 966 then (bif Nat.blt i 961 then (bif Nat.blt i 959 then (bif Nat.blt i 958 then [6, 70] else [9, 70]) else (bif Nat.blt i 960 then [10, 70] else [1, 1, 48, 23])) else (bif Nat.blt i 963 then (bif Nat.blt i 962 then [] else [6, 23]) else (bif Nat.blt i 964 then [10, 23] else (bif Nat.blt i 965 then [1, 1, 55, 71] else [6, 71])))) else (bif Nat.blt i 970 then (bif Nat.blt i 968 then (bif Nat.blt i 967 then [9, 71] else [10, 71]) else (bif Nat.blt i 969 then [1, 1, 58, 72] else [6, 72])) else (bif Nat.blt i 972 then (bif Nat.blt i 971 then [9, 72] else [10, 72]) else (bif Nat.blt i 973 then [1, 1, 61, 94] else (bif Nat.blt i 974 then [1, 1, 65, 73] else [6, 73])))))) else (bif Nat.blt i 993 then (bif Nat.blt i 984 then (bif Nat.blt i 979 then (bif Nat.blt i 977 then (bif Nat.blt i 976 then [9, 73] else [10, 73]) else (bif Nat.blt i 978 then [1, 1, 68, 74] else [6, 74])) else (bif Nat.blt i 981 then (bif Nat.blt i 980 then [9, 74] else [10, 74]) else (bif Nat.blt i 982 then [1, 1, 72, 24] else (bif Nat.blt i 983 then [6, 24] else [9, 24])))) else (bif Nat.blt i 988 then (bif Nat.blt i 986 then (bif Nat.blt i 985 then [10, 24] else [1, 1, 104, 41]) else (bif Nat.blt i 987 then [6, 41] else [9, 41])) else (bif Nat.blt i 990 then (bif Nat.blt i 989 then [10, 41] else [1, 1, 107, 25]) else (bif Nat.blt i 991 then [6, 25] else (bif Nat.blt i 992 then [9, 25] else [10, 25]))))) else (bif Nat.blt i 1002 then (bif Nat.blt i 997 then (bif Nat.blt i 995 then (bif Nat.blt i 994 then [1, 1, 116, 75] else [6, 75]) else (bif Nat.blt i 996 then [9, 75] else [10, 75])) else (bif Nat.blt i 999 then (bif Nat.blt i 998 then [1, 1, 119, 76] else [6, 76]) else (bif Nat.blt i 1000 then [9, 76] else (bif Nat.blt i 1001 then [10, 76] else [1, 1, 122, 103])))) else (bif Nat.blt i 1007 then (bif Nat.blt i 1004 then (bif Nat.blt i 1003 then [6, 103] else [9, 103]) else (bif Nat.blt i 1005 then [10, 103] else (bif Nat.blt i 1006 then [1, 5, 75, 104] else [6, 104]))) else (bif Nat.blt i 1009 then (bif Nat.blt i 1008 then [9, 104] else [10, 104]) else (bif Nat.blt i 1010 then [1, 1, 125, 105] else (bif Nat.blt i 1011 then [6, 105] else [9, 105])))))))) else (bif Nat.blt i 1084 then (bif Nat.blt i 1048 then (bif Nat.blt i 1030 then (bif Nat.blt i 1021 then (bif Nat.blt i 1016 then (bif Nat.blt i 1014 then (bif Nat.blt i 1013 then [10, 105] else [1, 1, 128, 106]) else (bif Nat.blt i 1015 then [6, 106] else [9, 106])) else (bif Nat.blt i 1018 then (bif Nat.blt i 1017 then [10, 106] else [1, 1, 131, 107]) else (bif Nat.blt i 1019 then [6, 107] else (bif Nat.blt i 1020 then [9, 107] else [10, 107])))) else (bif Nat.blt i 1025 then (bif Nat.blt i 1023 then (bif Nat.blt i 1022 then [1, 1, 134, 108] else [6, 108]) else (bif Nat.blt i 1024 then [9, 108] else [10, 108])) else (bif Nat.blt i 1027 then (bif Nat.blt i 1026 then [1, 1, 137, 109] else [6, 109]) else (bif Nat.blt i 1028 then [9, 109] else (bif Nat.blt i 1029 then [10, 109] else [1, 1, 140, 77]))))) else (bif Nat.blt i 1039 then (bif Nat.blt i 1034 then (bif Nat.blt i 1032 then (bif Nat.blt i 1031 then [6, 77] else [9, 77]) else (bif Nat.blt i 1033 then [10, 77] else [1, 1, 94, 42])) else (bif Nat.blt i 1036 then (bif Nat.blt i 1035 then [6, 42] else [9, 42]) else (bif Nat.blt i 1037 then [10, 42] else (bif Nat.blt i 1038 then [1, 2, 48, 43] else [6, 43])))) else (bif Nat.blt i 1043 then (bif Nat.blt i 1041 then (bif Nat.blt i 1040 then [9, 43] else [10, 43]) else (bif Nat.blt i 1042 then [1, 2, 44, 41] else [1, 1, 110, 26])) else (bif Nat.blt i 1045 then (bif Nat.blt i 1044 then [6, 26] else [9, 26]) else (bif Nat.blt i 1046 then [10, 26] else (bif Nat.blt i 1047 then [1, 1, 143, 44] else [6, 44])))))) else (bif Nat.blt i 1066 then (bif Nat.blt i 1057 then (bif Nat.blt i 1052 then (bif Nat.blt i 1050 then (bif Nat.blt i 1049 then [9, 44] else [10, 44]) else (bif Nat.blt i 1051 then [1, 1, 146, 45] else [6, 45])) else (bif Nat.blt i 1054 then (bif Nat.blt i 1053 then [9, 45] else [10, 45]) else (bif Nat.blt i 1055 then [1, 1, 149, 27] else (bif Nat.blt i 1056 then [] else [6, 27])))) else (bif Nat.blt i 1061 then (bif Nat.blt i 1059 then (bif Nat.blt i 1058 then [10, 27] else [1, 1, 157, 28]) else (bif Nat.blt i 1060 then [] else [6, 28])) else (bif Nat.blt i 1063 then (bif Nat.blt i 1062 then [10, 28] else [1, 1, 161, 29]) else (bif Nat.blt i 1064 then [7, 29] else (bif Nat.blt i 1065 then [10, 29] else [1, 1, 173, 313]))))) else (bif Nat.blt i 1075 then (bif Nat.blt i 1070 then (bif Nat.blt i 1068 then (bif Nat.blt i 1067 then [7, 313] else [10, 313]) else (bif Nat.blt i 1069 then [] else [])) else (bif Nat.blt i 1072 then (bif Nat.blt i 1071 then [1, 1, 165, 30] else [7, 30]) else (bif Nat.blt i 1073 then [10, 30] else (bif Nat.blt i 1074 then [] else [1, 1, 153, 31])))) else (bif Nat.blt i 1079 then (bif Nat.blt i 1077 then (bif Nat.blt i 1076 then [] else [6, 31]) else (bif Nat.blt i 1078 then [10, 31] else [1, 1, 76, 32])) else (bif Nat.blt i 1081 then (bif Nat.blt i 1080 then [] else [6, 32]) else (bif Nat.blt i 1082 then [10, 32] else (bif Nat.blt i 1083 then [1, 1, 85, 43] else [1, 1, 91, 78]))))))) else (bif Nat.blt i 1120 then (bif Nat.blt i 1102 then (bif Nat.blt i 1093 then (bif Nat.blt i 1088 then (bif Nat.blt i 1086 then (bif Nat.blt i 1085 then [6, 78] else [9, 78]) else (bif Nat.blt i 1087 then [10, 78] else [1, 1, 98, 110])) else (bif Nat.blt i 1090 then (bif Nat.blt i 1089 then [6, 110] else [9, 110]) else (bif Nat.blt i 1091 then [10, 110] else (bif Nat.blt i 1092 then [1, 1, 101, 79] else [6, 79])))) else (bif Nat.blt i 1097 then (bif Nat.blt i 1095 then (bif Nat.blt i 1094 then [9, 79] else [10, 79]) else (bif Nat.blt i 1096 then [1, 1, 79, 80] else [6, 80])) else (bif Nat.blt i 1099 then (bif Nat.blt i 1098 then [9, 80] else [10, 80]) else (bif Nat.blt i 1100 then [1, 1, 82, 33] else (bif Nat.blt i 1101 then [] else [6, 33]))))) else (bif Nat.blt i 1111 then (bif Nat.blt i 1106 then (bif Nat.blt i 1104 then (bif Nat.blt i 1103 then [10, 33] else [1, 1, 52, 34]) else (bif Nat.blt i 1105 then [] else [6, 34])) else (bif Nat.blt i 1108 then (bif Nat.blt i 1107 then [10, 34] else [1, 1, 179, 81]) else (bif Nat.blt i 1109 then [6, 81] else (bif Nat.blt i 1110 then [9, 81] else [10, 81])))) else (bif Nat.blt i 1115 then (bif Nat.blt i 1113 then (bif Nat.blt i 1112 then [1, 1, 182, 35] else []) else (bif Nat.blt i 1114 then [6, 35] else [10, 35])) else (bif Nat.blt i 1117 then (bif Nat.blt i 1116 then [1, 1, 188, 82] else [6, 82]) else (bif Nat.blt i 1118 then [9, 82] else (bif Nat.blt i 1119 then [10, 82] else [1, 4, 63, 70])))))) else (bif Nat.blt i 1138 then (bif Nat.blt i 1129 then (bif Nat.blt i 1124 then (bif Nat.blt i 1122 then (bif Nat.blt i 1121 then [1, 1, 185, 36] else []) else (bif Nat.blt i 1123 then [6, 36] else [10, 36])) else (bif Nat.blt i 1126 then (bif Nat.blt i 1125 then [1, 1, 191, 37] else []) else (bif Nat.blt i 1127 then [6, 37] else (bif Nat.blt i 1128 then [10, 37] else [1, 1, 194, 38])))) else (bif Nat.blt i 1133 then (bif Nat.blt i 1131 then (bif Nat.blt i 1130 then [] else [6, 38]) else (bif Nat.blt i 1132 then [10, 38] else [2, 1, 201, 169])) else (bif Nat.blt i 1135 then (bif Nat.blt i 1134 then [1, 1, 204, 97] else [1, 13, 85, 183]) else (bif Nat.blt i 1136 then [6, 183] else (bif Nat.blt i 1137 then [9, 183] else [10, 183]))))) else (bif Nat.blt i 1147 then (bif Nat.blt i 1142 then (bif Nat.blt i 1140 then (bif Nat.blt i 1139 then [1, 11, 213, 83] else [6, 83]) else (bif Nat.blt i 1141 then [9, 83] else [10, 83])) else (bif Nat.blt i 1144 then (bif Nat.blt i 1143 then [1, 4, 80, 65] else [1, 13, 89, 184]) else (bif Nat.blt i 1145 then [6, 184] else (bif Nat.blt i 1146 then [9, 184] else [10, 184])))) else (bif Nat.blt i 1152 then (bif Nat.blt i 1149 then (bif Nat.blt i 1148 then [1, 11, 216, 24] else [1, 13, 93, 185]) else (bif Nat.blt i 1150 then [6, 185] else (bif Nat.blt i 1151 then [9, 185] else [10, 185]))) else (bif Nat.blt i 1154 then (bif Nat.blt i 1153 then [1, 11, 220, 73] else [1, 11, 223, 43]) else (bif Nat.blt i 1155 then [] else (bif Nat.blt i 1156 then [1, 11, 228, 25] else [1, 11, 231, 26]))))))))))) else (bif Nat.blt i 1735 then (bif Nat.blt i 1446 then (bif Nat.blt i 1301 then (bif Nat.blt i 1229 then (bif Nat.blt i 1193 then (bif Nat.blt i 1175 then (bif Nat.blt i 1166 then (bif Nat.blt i 1161 then (bif Nat.blt i 1159 then (bif Nat.blt i 1158 then [1, 13, 98, 186] else [6, 186]) else (bif Nat.blt i 1160 then [9, 186] else [10, 186])) else (bif Nat.blt i 1163 then (bif Nat.blt i 1162 then [1, 11, 235, 66] else [1, 11, 238, 84]) else (bif Nat.blt i 1164 then [6, 84] else (bif Nat.blt i 1165 then [9, 84] else [10, 84])))) else (bif Nat.blt i 1170 then (bif Nat.blt i 1168 then (bif Nat.blt i 1167 then [2, 4, 83, 169] else [1, 13, 102, 187]) else (bif Nat.blt i 1169 then [6, 187] else [9, 187])) else (bif Nat.blt i 1172 then (bif Nat.blt i 1171 then [10, 187] else [1, 11, 241, 85]) else (bif Nat.blt i 1173 then [6, 85] else (bif Nat.blt i 1174 then [9, 85] else [10, 85]))))) else (bif Nat.blt i 1184 then (bif Nat.blt i 1179 then (bif Nat.blt i 1177 then (bif Nat.blt i 1176 then [1, 4, 87, 84] else [1, 13, 106, 188]) else (bif Nat.blt i 1178 then [6, 188] else [9, 188])) else (bif Nat.blt i 1181 then (bif Nat.blt i 1180 then [10, 188] else [1, 11, 244, 111]) else (bif Nat.blt i 1182 then [6, 111] else (bif Nat.blt i 1183 then [9, 111] else [10, 111])))) else (bif Nat.blt i 1188 then (bif Nat.blt i 1186 then (bif Nat.blt i 1185 then [1, 5, 79, 105] else [1, 5, 83, 103]) else (bif Nat.blt i 1187 then [1, 13, 110, 189] else [6, 189])) else (bif Nat.blt i 1190 then (bif Nat.blt i 1189 then [9, 189] else [10, 189]) else (bif Nat.blt i 1191 then [1, 11, 250, 112] else (bif Nat.blt i 1192 then [6, 112] else [9, 112])))))) else (bif Nat.blt i 1211 then (bif Nat.blt i 1202 then (bif Nat.blt i 1197 then (bif Nat.blt i 1195 then (bif Nat.blt i 1194 then [10, 112] else [1, 5, 101, 113]) else (bif Nat.blt i 1196 then [6, 113] else [9, 113])) else (bif Nat.blt i 1199 then (bif Nat.blt i 1198 then [10, 113] else [1, 5, 93, 98]) else (bif Nat.blt i 1200 then [1, 5, 96, 314] else (bif Nat.blt i 1201 then [1, 11, 253, 128] else [6, 128])))) else (bif Nat.blt i 1206 then (bif Nat.blt i 1204 then (bif Nat.blt i 1203 then [9, 128] else [10, 128]) else (bif Nat.blt i 1205 then [1, 7, 81, 129] else [])) else (bif Nat.blt i 1208 then (bif Nat.blt i 1207 then [6, 129] else [10, 129]) else (bif Nat.blt i 1209 then [1, 7, 106, 113] else (bif Nat.blt i 1210 then [1, 7, 110, 98] else [1, 7, 114, 105]))))) else (bif Nat.blt i 1220 then (bif Nat.blt i 1215 then (bif Nat.blt i 1213 then (bif Nat.blt i 1212 then [1, 7, 117, 103] else [1, 7, 120, 108]) else (bif Nat.blt i 1214 then [1, 7, 123, 130] else [])) else (bif Nat.blt i 1217 then (bif Nat.blt i 1216 then [6, 130] else [10, 130]) else (bif Nat.blt i 1218 then [1, 7, 85, 131] else (bif Nat.blt i 1219 then [] else [6, 131])))) else (bif Nat.blt i 1224 then (bif Nat.blt i 1222 then (bif Nat.blt i 1221 then [10, 131] else [1, 7, 89, 132]) else (bif Nat.blt i 1223 then [] else [6, 132])) else (bif Nat.blt i 1226 then (bif Nat.blt i 1225 then [10, 132] else [1, 7, 93, 133]) else (bif Nat.blt i 1227 then [] else (bif Nat.blt i 1228 then [6, 133] else [10, 133]))))))) else (bif Nat.blt i 1265 then (bif Nat.blt i 1247 then (bif Nat.blt i 1238 then (bif Nat.blt i 1233 then (bif Nat.blt i 1231 then (bif Nat.blt i 1230 then [1, 7, 126, 104] else [1, 7, 97, 134]) else (bif Nat.blt i 1232 then [] else [6, 134])) else (bif Nat.blt i 1235 then (bif Nat.blt i 1234 then [10, 134] else [1, 7, 134, 135]) else (bif Nat.blt i 1236 then [] else (bif Nat.blt i 1237 then [6, 135] else [10, 135])))) else (bif Nat.blt i 1242 then (bif Nat.blt i 1240 then (bif Nat.blt i 1239 then [2, 7, 140, 169] else [1, 7, 143, 145]) else (bif Nat.blt i 1241 then [6, 145] else [9, 145])) else (bif Nat.blt i 1244 then (bif Nat.blt i 1243 then [10, 145] else [1, 8, 40, 146]) else (bif Nat.blt i 1245 then [] else (bif Nat.blt i 1246 then [6, 146] else [10, 146]))))) else (bif Nat.blt i 1256 then (bif Nat.blt i 1251 then (bif Nat.blt i 1249 then (bif Nat.blt i 1248 then [1, 8, 52, 147] else [7, 147]) else (bif Nat.blt i 1250 then [10, 147] else [1, 8, 56, 105])) else (bif Nat.blt i 1253 then (bif Nat.blt i 1252 then [1, 8, 59, 103] else [2, 8, 62, 169]) else (bif Nat.blt i 1254 then [1, 8, 66, 104] else (bif Nat.blt i 1255 then [1, 8, 69, 148] else [])))) else (bif Nat.blt i 1260 then (bif Nat.blt i 1258 then (bif Nat.blt i 1257 then [6, 148] else [10, 148]) else (bif Nat.blt i 1259 then [1, 8, 73, 311] else [1, 8, 44, 111])) else (bif Nat.blt i 1262 then (bif Nat.blt i 1261 then [1, 8, 48, 149] else [6, 149]) else (bif Nat.blt i 1263 then [9, 149] else (bif Nat.blt i 1264 then [10, 149] else [1, 7, 149, 147])))))) else (bif Nat.blt i 1283 then (bif Nat.blt i 1274 then (bif Nat.blt i 1269 then (bif Nat.blt i 1267 then (bif Nat.blt i 1266 then [1, 7, 152, 149] else [1, 7, 137, 136]) else (bif Nat.blt i 1268 then [] else [6, 136])) else (bif Nat.blt i 1271 then (bif Nat.blt i 1270 then [10, 136] else [1, 7, 129, 312]) else (bif Nat.blt i 1272 then [1, 7, 100, 137] else (bif Nat.blt i 1273 then [] else [6, 137])))) else (bif Nat.blt i 1278 then (bif Nat.blt i 1276 then (bif Nat.blt i 1275 then [10, 137] else [1, 11, 256, 138]) else (bif Nat.blt i 1277 then [6, 138] else [9, 138])) else (bif Nat.blt i 1280 then (bif Nat.blt i 1279 then [10, 138] else [1, 13, 114, 190]) else (bif Nat.blt i 1281 then [6, 190] else (bif Nat.blt i 1282 then [9, 190] else [10, 190]))))) else (bif Nat.blt i 1292 then (bif Nat.blt i 1287 then (bif Nat.blt i 1285 then (bif Nat.blt i 1284 then [1, 11, 259, 139] else [6, 139]) else (bif Nat.blt i 1286 then [9, 139] else [10, 139])) else (bif Nat.blt i 1289 then (bif Nat.blt i 1288 then [1, 7, 156, 140] else []) else (bif Nat.blt i 1290 then [6, 140] else (bif Nat.blt i 1291 then [10, 140] else [1, 7, 159, 95])))) else (bif Nat.blt i 1296 then (bif Nat.blt i 1294 then (bif Nat.blt i 1293 then [1, 13, 118, 191] else [6, 191]) else (bif Nat.blt i 1295 then [9, 191] else [10, 191])) else (bif Nat.blt i 1298 then (bif Nat.blt i 1297 then [1, 13, 122, 192] else [6, 192]) else (bif Nat.blt i 1299 then [9, 192] else (bif Nat.blt i 1300 then [10, 192] else [1, 11, 262, 141])))))))) else (bif Nat.blt i 1373 then (bif Nat.blt i 1337 then (bif Nat.blt i 1319 then (bif Nat.blt i 1310 then (bif Nat.blt i 1305 then (bif Nat.blt i 1303 then (bif Nat.blt i 1302 then [6, 141] else [9, 141]) else (bif Nat.blt i 1304 then [10, 141] else [1, 7, 162, 314])) else (bif Nat.blt i 1307 then (bif Nat.blt i 1306 then [1, 7, 167, 142] else []) else (bif Nat.blt i 1308 then [6, 142] else (bif Nat.blt i 1309 then [10, 142] else [1, 13, 127, 193])))) else (bif Nat.blt i 1314 then (bif Nat.blt i 1312 then (bif Nat.blt i 1311 then [6, 193] else [9, 193]) else (bif Nat.blt i 1313 then [10, 193] else [1, 11, 265, 143])) else (bif Nat.blt i 1316 then (bif Nat.blt i 1315 then [6, 143] else [9, 143]) else (bif Nat.blt i 1317 then [10, 143] else (bif Nat.blt i 1318 then [1, 13, 131, 194] else [6, 194]))))) else (bif Nat.blt i 1328 then (bif Nat.blt i 1323 then (bif Nat.blt i 1321 then (bif Nat.blt i 1320 then [9, 194] else [10, 194]) else (bif Nat.blt i 1322 then [1, 11, 268, 119] else [6, 119])) else (bif Nat.blt i 1325 then (bif Nat.blt i 1324 then [9, 119] else [10, 119]) else (bif Nat.blt i 1326 then [1, 6, 34, 120] else (bif Nat.blt i 1327 then [] else [6, 120])))) else (bif Nat.blt i 1332 then (bif Nat.blt i 1330 then (bif Nat.blt i 1329 then [10, 120] else []) else (bif Nat.blt i 1331 then [1, 6, 39, 121] else [])) else (bif Nat.blt i 1334 then (bif Nat.blt i 1333 then [6, 121] else [10, 121]) else (bif Nat.blt i 1335 then [1, 6, 46, 94] else (bif Nat.blt i 1336 then [1, 6, 49, 122] else [])))))) else (bif Nat.blt i 1355 then (bif Nat.blt i 1346 then (bif Nat.blt i 1341 then (bif Nat.blt i 1339 then (bif Nat.blt i 1338 then [6, 122] else [10, 122]) else (bif Nat.blt i 1340 then [1, 6, 43, 123] else [])) else (bif Nat.blt i 1343 then (bif Nat.blt i 1342 then [6, 123] else [10, 123]) else (bif Nat.blt i 1344 then [1, 6, 53, 124] else (bif Nat.blt i 1345 then [] else [6, 124])))) else (bif Nat.blt i 1350 then (bif Nat.blt i 1348 then (bif Nat.blt i 1347 then [10, 124] else [1, 6, 60, 105]) else (bif Nat.blt i 1349 then [2, 6, 63, 169] else [1, 6, 56, 125])) else (bif Nat.blt i 1352 then (bif Nat.blt i 1351 then [] else [6, 125]) else (bif Nat.blt i 1353 then [10, 125] else (bif Nat.blt i 1354 then [1, 6, 66, 104] else [1, 11, 271, 126]))))) else (bif Nat.blt i 1364 then (bif Nat.blt i 1359 then (bif Nat.blt i 1357 then (bif Nat.blt i 1356 then [6, 126] else [9, 126]) else (bif Nat.blt i 1358 then [10, 126] else [1, 13, 135, 195])) else (bif Nat.blt i 1361 then (bif Nat.blt i 1360 then [6, 195] else [9, 195]) else (bif Nat.blt i 1362 then [10, 195] else (bif Nat.blt i 1363 then [1, 11, 273, 1] else [6, 1])))) else (bif Nat.blt i 1368 then (bif Nat.blt i 1366 then (bif Nat.blt i 1365 then [9, 1] else [10, 1]) else (bif Nat.blt i 1367 then [1, 13, 139, 196] else [6, 196])) else (bif Nat.blt i 1370 then (bif Nat.blt i 1369 then [9, 196] else [10, 196]) else (bif Nat.blt i 1371 then [1, 11, 276, 2] else (bif Nat.blt i 1372 then [6, 2] else [9, 2]))))))) else (bif Nat.blt i 1409 then (bif Nat.blt i 1391 then (bif Nat.blt i 1382 then (bif Nat.blt i 1377 then (bif Nat.blt i 1375 then (bif Nat.blt i 1374 then [10, 2] else [1, 11, 279, 3]) else (bif Nat.blt i 1376 then [6, 3] else [9, 3])) else (bif Nat.blt i 1379 then (bif Nat.blt i 1378 then [10, 3] else [1, 0, 47, 2]) else (bif Nat.blt i 1380 then [1, 0, 51, 88] else (bif Nat.blt i 1381 then [1, 11, 282, 4] else [6, 4])))) else (bif Nat.blt i 1386 then (bif Nat.blt i 1384 then (bif Nat.blt i 1383 then [9, 4] else [10, 4]) else (bif Nat.blt i 1385 then [1, 13, 143, 197] else [6, 197])) else (bif Nat.blt i 1388 then (bif Nat.blt i 1387 then [9, 197] else [10, 197]) else (bif Nat.blt i 1389 then [1, 11, 285, 5] else (bif Nat.blt i 1390 then [6, 5] else [9, 5]))))) else (bif Nat.blt i 1400 then (bif Nat.blt i 1395 then (bif Nat.blt i 1393 then (bif Nat.blt i 1392 then [10, 5] else [2, 0, 56, 169]) else (bif Nat.blt i 1394 then [1, 13, 147, 198] else [6, 198])) else (bif Nat.blt i 1397 then (bif Nat.blt i 1396 then [9, 198] else [10, 198]) else (bif Nat.blt i 1398 then [1, 11, 289, 6] else (bif Nat.blt i 1399 then [6, 6] else [9, 6])))) else (bif Nat.blt i 1404 then (bif Nat.blt i 1402 then (bif Nat.blt i 1401 then [10, 6] else [1, 13, 151, 199]) else (bif Nat.blt i 1403 then [6, 199] else [9, 199])) else (bif Nat.blt i 1406 then (bif Nat.blt i 1405 then [10, 199] else [1, 11, 292, 7]) else (bif Nat.blt i 1407 then [6, 7] else (bif Nat.blt i 1408 then [9, 7] else [10, 7])))))) else (bif Nat.blt i 1427 then (bif Nat.blt i 1418 then (bif Nat.blt i 1413 then (bif Nat.blt i 1411 then (bif Nat.blt i 1410 then [1, 11, 295, 8] else [6, 8]) else (bif Nat.blt i 1412 then [9, 8] else [10, 8])) else (bif Nat.blt i 1415 then (bif Nat.blt i 1414 then [1, 0, 70, 9] else []) else (bif Nat.blt i 1416 then [6, 9] else (bif Nat.blt i 1417 then [10, 9] else [1, 0, 63, 7])))) else (bif Nat.blt i 1422 then (bif Nat.blt i 1420 then (bif Nat.blt i 1419 then [1, 0, 74, 312] else [1, 13, 155, 200]) else (bif Nat.blt i 1421 then [6, 200] else [9, 200])) else (bif Nat.blt i 1424 then (bif Nat.blt i 1423 then [10, 200] else [1, 11, 298, 10]) else (bif Nat.blt i 1425 then [6, 10] else (bif Nat.blt i 1426 then [9, 10] else [10, 10]))))) else (bif Nat.blt i 1436 then (bif Nat.blt i 1431 then (bif Nat.blt i 1429 then (bif Nat.blt i 1428 then [1, 0, 67, 11] else []) else (bif Nat.blt i 1430 then [6, 11] else [10, 11])) else (bif Nat.blt i 1433 then (bif Nat.blt i 1432 then [1, 0, 60, 94] else [1, 0, 79, 8]) else (bif Nat.blt i 1434 then [1, 0, 82, 12] else (bif Nat.blt i 1435 then [] else [6, 12])))) else (bif Nat.blt i 1441 then (bif Nat.blt i 1438 then (bif Nat.blt i 1437 then [10, 12] else [1, 0, 85, 109]) else (bif Nat.blt i 1439 then [1, 11, 301, 13] else (bif Nat.blt i 1440 then [6, 13] else [9, 13]))) else (bif Nat.blt i 1443 then (bif Nat.blt i 1442 then [10, 13] else [1, 0, 105, 14]) else (bif Nat.blt i 1444 then [] else (bif Nat.blt i 1445 then [6, 14] else [10, 14]))))))))) else (bif Nat.blt i 1590 then (bif Nat.blt i 1518 then (bif Nat.blt i 1482 then (bif Nat.blt i 1464 then (bif Nat.blt i 1455 then (bif Nat.blt i 1450 then (bif Nat.blt i 1448 then (bif Nat.blt i 1447 then [1, 0, 93, 10] else [1, 0, 96, 15]) else (bif Nat.blt i 1449 then [] else [6, 15])) else (bif Nat.blt i 1452 then (bif Nat.blt i 1451 then [10, 15] else [1, 0, 89, 16]) else (bif Nat.blt i 1453 then [] else (bif Nat.blt i 1454 then [6, 16] else [10, 16])))) else (bif Nat.blt i 1459 then (bif Nat.blt i 1457 then (bif Nat.blt i 1456 then [1, 0, 99, 17] else []) else (bif Nat.blt i 1458 then [6, 17] else [10, 17])) else (bif Nat.blt i 1461 then (bif Nat.blt i 1460 then [1, 0, 102, 18] else [7, 18]) else (bif Nat.blt i 1462 then [10, 18] else (bif Nat.blt i 1463 then [1, 11, 304, 19] else [6, 19]))))) else (bif Nat.blt i 1473 then (bif Nat.blt i 1468 then (bif Nat.blt i 1466 then (bif Nat.blt i 1465 then [9, 19] else [10, 19]) else (bif Nat.blt i 1467 then [1, 0, 111, 314] else [1, 13, 159, 201])) else (bif Nat.blt i 1470 then (bif Nat.blt i 1469 then [6, 201] else [9, 201]) else (bif Nat.blt i 1471 then [10, 201] else (bif Nat.blt i 1472 then [1, 11, 307, 20] else [6, 20])))) else (bif Nat.blt i 1477 then (bif Nat.blt i 1475 then (bif Nat.blt i 1474 then [9, 20] else [10, 20]) else (bif Nat.blt i 1476 then [1, 13, 163, 202] else [6, 202])) else (bif Nat.blt i 1479 then (bif Nat.blt i 1478 then [9, 202] else [10, 202]) else (bif Nat.blt i 1480 then [1, 11, 310, 114] else (bif Nat.blt i 1481 then [6, 114] else [9, 114])))))) else (bif Nat.blt i 1500 then (bif Nat.blt i 1491 then (bif Nat.blt i 1486 then (bif Nat.blt i 1484 then (bif Nat.blt i 1483 then [10, 114] else [1, 11, 313, 86]) else (bif Nat.blt i 1485 then [6, 86] else [9, 86])) else (bif Nat.blt i 1488 then (bif Nat.blt i 1487 then [10, 86] else [1, 4, 67, 82]) else (bif Nat.blt i 1489 then [1, 4, 70, 72] else (bif Nat.blt i 1490 then [1, 4, 73, 73] else [1, 4, 76, 74])))) else (bif Nat.blt i 1495 then (bif Nat.blt i 1493 then (bif Nat.blt i 1492 then [1, 13, 167, 203] else [6, 203]) else (bif Nat.blt i 1494 then [9, 203] else [10, 203])) else (bif Nat.blt i 1497 then (bif Nat.blt i 1496 then [1, 11, 316, 115] else [6, 115]) else (bif Nat.blt i 1498 then [9, 115] else (bif Nat.blt i 1499 then [10, 115] else [1, 13, 177, 204]))))) else (bif Nat.blt i 1509 then (bif Nat.blt i 1504 then (bif Nat.blt i 1502 then (bif Nat.blt i 1501 then [6, 204] else [9, 204]) else (bif Nat.blt i 1503 then [10, 204] else [1, 11, 345, 116])) else (bif Nat.blt i 1506 then (bif Nat.blt i 1505 then [6, 116] else [9, 116]) else (bif Nat.blt i 1507 then [10, 116] else (bif Nat.blt i 1508 then [1, 5, 86, 102] else [1, 5, 90, 106])))) else (bif Nat.blt i 1513 then (bif Nat.blt i 1511 then (bif Nat.blt i 1510 then [] else []) else (bif Nat.blt i 1512 then [] else [])) else (bif Nat.blt i 1515 then (bif Nat.blt i 1514 then [] else [1, 13, 7, 205]) else (bif Nat.blt i 1516 then [6, 205] else (bif Nat.blt i 1517 then [9, 205] else [10, 205]))))))) else (bif Nat.blt i 1554 then (bif Nat.blt i 1536 then (bif Nat.blt i 1527 then (bif Nat.blt i 1522 then (bif Nat.blt i 1520 then (bif Nat.blt i 1519 then [] else []) else (bif Nat.blt i 1521 then [] else [])) else (bif Nat.blt i 1524 then (bif Nat.blt i 1523 then [] else []) else (bif Nat.blt i 1525 then [] else (bif Nat.blt i 1526 then [] else [])))) else (bif Nat.blt i 1531 then (bif Nat.blt i 1529 then (bif Nat.blt i 1528 then [] else []) else (bif Nat.blt i 1530 then [] else [])) else (bif Nat.blt i 1533 then (bif Nat.blt i 1532 then [] else []) else (bif Nat.blt i 1534 then [] else (bif Nat.blt i 1535 then [] else []))))) else (bif Nat.blt i 1545 then (bif Nat.blt i 1540 then (bif Nat.blt i 1538 then (bif Nat.blt i 1537 then [] else []) else (bif Nat.blt i 1539 then [] else [])) else (bif Nat.blt i 1542 then (bif Nat.blt i 1541 then [] else []) else (bif Nat.blt i 1543 then [] else (bif Nat.blt i 1544 then [] else [])))) else (bif Nat.blt i 1549 then (bif Nat.blt i 1547 then (bif Nat.blt i 1546 then [] else []) else (bif Nat.blt i 1548 then [] else [])) else (bif Nat.blt i 1551 then (bif Nat.blt i 1550 then [] else []) else (bif Nat.blt i 1552 then [] else (bif Nat.blt i 1553 then [] else [])))))) else (bif Nat.blt i 1572 then (bif Nat.blt i 1563 then (bif Nat.blt i 1558 then (bif Nat.blt i 1556 then (bif Nat.blt i 1555 then [] else []) else (bif Nat.blt i 1557 then [] else [])) else (bif Nat.blt i 1560 then (bif Nat.blt i 1559 then [] else []) else (bif Nat.blt i 1561 then [] else (bif Nat.blt i 1562 then [] else [])))) else (bif Nat.blt i 1567 then (bif Nat.blt i 1565 then (bif Nat.blt i 1564 then [] else []) else (bif Nat.blt i 1566 then [] else [])) else (bif Nat.blt i 1569 then (bif Nat.blt i 1568 then [] else []) else (bif Nat.blt i 1570 then [] else (bif Nat.blt i 1571 then [] else []))))) else (bif Nat.blt i 1581 then (bif Nat.blt i 1576 then (bif Nat.blt i 1574 then (bif Nat.blt i 1573 then [] else []) else (bif Nat.blt i 1575 then [] else [])) else (bif Nat.blt i 1578 then (bif Nat.blt i 1577 then [] else []) else (bif Nat.blt i 1579 then [] else (bif Nat.blt i 1580 then [] else [])))) else (bif Nat.blt i 1585 then (bif Nat.blt i 1583 then (bif Nat.blt i 1582 then [] else []) else (bif Nat.blt i 1584 then [] else [1, 11, 326, 117])) else (bif Nat.blt i 1587 then (bif Nat.blt i 1586 then [6, 117] else [9, 117]) else (bif Nat.blt i 1588 then [10, 117] else (bif Nat.blt i 1589 then [] else [])))))))) else (bif Nat.blt i 1662 then (bif Nat.blt i 1626 then (bif Nat.blt i 1608 then (bif Nat.blt i 1599 then (bif Nat.blt i 1594 then (bif Nat.blt i 1592 then (bif Nat.blt i 1591 then [] else []) else (bif Nat.blt i 1593 then [] else [])) else (bif Nat.blt i 1596 then (bif Nat.blt i 1595 then [] else []) else (bif Nat.blt i 1597 then [] else (bif Nat.blt i 1598 then [] else [])))) else (bif Nat.blt i 1603 then (bif Nat.blt i 1601 then (bif Nat.blt i 1600 then [] else []) else (bif Nat.blt i 1602 then [] else [])) else (bif Nat.blt i 1605 then (bif Nat.blt i 1604 then [] else [3, 13, 18, 12]) else (bif Nat.blt i 1606 then [] else (bif Nat.blt i 1607 then [1, 13, 20, 206] else [6, 206]))))) else (bif Nat.blt i 1617 then (bif Nat.blt i 1612 then (bif Nat.blt i 1610 then (bif Nat.blt i 1609 then [10, 206] else []) else (bif Nat.blt i 1611 then [] else [0, 12, 7, 12, 0])) else (bif Nat.blt i 1614 then (bif Nat.blt i 1613 then [0, 12, 200, 12, 1] else [0, 12, 197, 12, 2]) else (bif Nat.blt i 1615 then [0, 12, 203, 12, 3] else (bif Nat.blt i 1616 then [0, 12, 13, 12, 4] else [0, 12, 16, 12, 5])))) else (bif Nat.blt i 1621 then (bif Nat.blt i 1619 then (bif Nat.blt i 1618 then [0, 12, 20, 12, 6] else [0, 12, 23, 12, 7]) else (bif Nat.blt i 1620 then [0, 12, 26, 12, 8] else [0, 12, 29, 12, 9])) else (bif Nat.blt i 1623 then (bif Nat.blt i 1622 then [0, 12, 206, 12, 10] else [0, 12, 32, 12, 11]) else (bif Nat.blt i 1624 then [0, 12, 35, 12, 12] else (bif Nat.blt i 1625 then [0, 12, 38, 12, 13] else [0, 12, 41, 12, 14])))))) else (bif Nat.blt i 1644 then (bif Nat.blt i 1635 then (bif Nat.blt i 1630 then (bif Nat.blt i 1628 then (bif Nat.blt i 1627 then [0, 12, 213, 12, 15] else [0, 12, 223, 12, 16]) else (bif Nat.blt i 1629 then [0, 12, 44, 12, 17] else [0, 12, 244, 12, 18])) else (bif Nat.blt i 1632 then (bif Nat.blt i 1631 then [0, 12, 47, 12, 19] else [0, 12, 250, 12, 20]) else (bif Nat.blt i 1633 then [0, 12, 253, 12, 21] else (bif Nat.blt i 1634 then [0, 12, 260, 12, 22] else [0, 12, 269, 12, 23])))) else (bif Nat.blt i 1639 then (bif Nat.blt i 1637 then (bif Nat.blt i 1636 then [0, 12, 247, 12, 24] else [0, 12, 51, 12, 25]) else (bif Nat.blt i 1638 then [0, 12, 54, 12, 26] else [0, 12, 57, 12, 27])) else (bif Nat.blt i 1641 then (bif Nat.blt i 1640 then [0, 12, 60, 12, 28] else [0, 12, 63, 12, 29]) else (bif Nat.blt i 1642 then [0, 12, 66, 12, 30] else (bif Nat.blt i 1643 then [0, 12, 69, 12, 31] else [0, 12, 72, 12, 32]))))) else (bif Nat.blt i 1653 then (bif Nat.blt i 1648 then (bif Nat.blt i 1646 then (bif Nat.blt i 1645 then [0, 12, 75, 12, 33] else [0, 12, 279, 12, 34]) else (bif Nat.blt i 1647 then [0, 12, 285, 12, 35] else [0, 12, 78, 12, 36])) else (bif Nat.blt i 1650 then (bif Nat.blt i 1649 then [0, 12, 81, 12, 37] else [0, 12, 291, 12, 38]) else (bif Nat.blt i 1651 then [0, 12, 84, 12, 39] else (bif Nat.blt i 1652 then [0, 12, 288, 12, 40] else [0, 12, 87, 12, 41])))) else (bif Nat.blt i 1657 then (bif Nat.blt i 1655 then (bif Nat.blt i 1654 then [0, 12, 322, 12, 42] else [0, 12, 325, 12, 43]) else (bif Nat.blt i 1656 then [0, 12, 331, 12, 44] else [0, 12, 312, 12, 45])) else (bif Nat.blt i 1659 then (bif Nat.blt i 1658 then [0, 12, 353, 12, 46] else [0, 12, 90, 12, 47]) else (bif Nat.blt i 1660 then [0, 12, 93, 12, 48] else (bif Nat.blt i 1661 then [0, 12, 96, 12, 49] else [0, 12, 99, 12, 50]))))))) else (bif Nat.blt i 1698 then (bif Nat.blt i 1680 then (bif Nat.blt i 1671 then (bif Nat.blt i 1666 then (bif Nat.blt i 1664 then (bif Nat.blt i 1663 then [0, 12, 102, 12, 51] else [0, 12, 105, 12, 52]) else (bif Nat.blt i 1665 then [0, 12, 108, 12, 53] else [0, 12, 111, 12, 54])) else (bif Nat.blt i 1668 then (bif Nat.blt i 1667 then [0, 12, 114, 12, 55] else [0, 12, 117, 12, 56]) else (bif Nat.blt i 1669 then [0, 12, 120, 12, 57] else (bif Nat.blt i 1670 then [0, 12, 123, 12, 58] else [0, 12, 126, 12, 59])))) else (bif Nat.blt i 1675 then (bif Nat.blt i 1673 then (bif Nat.blt i 1672 then [0, 12, 359, 12, 60] else [0, 12, 129, 12, 61]) else (bif Nat.blt i 1674 then [0, 12, 132, 12, 62] else [0, 12, 362, 12, 63])) else (bif Nat.blt i 1677 then (bif Nat.blt i 1676 then [0, 12, 136, 12, 64] else [0, 12, 425, 12, 65]) else (bif Nat.blt i 1678 then [0, 12, 139, 12, 66] else (bif Nat.blt i 1679 then [0, 12, 142, 12, 67] else [0, 12, 145, 12, 68]))))) else (bif Nat.blt i 1689 then (bif Nat.blt i 1684 then (bif Nat.blt i 1682 then (bif Nat.blt i 1681 then [0, 12, 428, 12, 69] else [0, 12, 148, 12, 70]) else (bif Nat.blt i 1683 then [0, 12, 151, 12, 71] else [0, 12, 154, 12, 72])) else (bif Nat.blt i 1686 then (bif Nat.blt i 1685 then [0, 12, 157, 12, 73] else [0, 12, 161, 12, 74]) else (bif Nat.blt i 1687 then [0, 12, 164, 12, 75] else (bif Nat.blt i 1688 then [0, 12, 450, 12, 76] else [0, 12, 453, 12, 77])))) else (bif Nat.blt i 1693 then (bif Nat.blt i 1691 then (bif Nat.blt i 1690 then [0, 12, 167, 12, 78] else [0, 12, 170, 12, 79]) else (bif Nat.blt i 1692 then [0, 12, 173, 12, 80] else [0, 12, 471, 12, 81])) else (bif Nat.blt i 1695 then (bif Nat.blt i 1694 then [0, 12, 176, 12, 82] else [0, 12, 179, 12, 83]) else (bif Nat.blt i 1696 then [0, 12, 182, 12, 84] else (bif Nat.blt i 1697 then [0, 12, 185, 12, 85] else [0, 12, 188, 12, 86])))))) else (bif Nat.blt i 1716 then (bif Nat.blt i 1707 then (bif Nat.blt i 1702 then (bif Nat.blt i 1700 then (bif Nat.blt i 1699 then [0, 12, 191, 12, 87] else [0, 12, 483, 12, 88]) else (bif Nat.blt i 1701 then [0, 12, 194, 12, 89] else [])) else (bif Nat.blt i 1704 then (bif Nat.blt i 1703 then [] else []) else (bif Nat.blt i 1705 then [] else (bif Nat.blt i 1706 then [] else [])))) else (bif Nat.blt i 1711 then (bif Nat.blt i 1709 then (bif Nat.blt i 1708 then [] else []) else (bif Nat.blt i 1710 then [] else [])) else (bif Nat.blt i 1713 then (bif Nat.blt i 1712 then [] else []) else (bif Nat.blt i 1714 then [] else (bif Nat.blt i 1715 then [] else []))))) else (bif Nat.blt i 1725 then (bif Nat.blt i 1720 then (bif Nat.blt i 1718 then (bif Nat.blt i 1717 then [] else []) else (bif Nat.blt i 1719 then [] else [])) else (bif Nat.blt i 1722 then (bif Nat.blt i 1721 then [] else []) else (bif Nat.blt i 1723 then [] else (bif Nat.blt i 1724 then [] else [])))) else (bif Nat.blt i 1730 then (bif Nat.blt i 1727 then (bif Nat.blt i 1726 then [] else []) else (bif Nat.blt i 1728 then [] else (bif Nat.blt i 1729 then [] else []))) else (bif Nat.blt i 1732 then (bif Nat.blt i 1731 then [] else []) else (bif Nat.blt i 1733 then [] else (bif Nat.blt i 1734 then [] else [])))))))))) else (bif Nat.blt i 2024 then (bif Nat.blt i 1879 then (bif Nat.blt i 1807 then (bif Nat.blt i 1771 then (bif Nat.blt i 1753 then (bif Nat.blt i 1744 then (bif Nat.blt i 1739 then (bif Nat.blt i 1737 then (bif Nat.blt i 1736 then [] else []) else (bif Nat.blt i 1738 then [] else [])) else (bif Nat.blt i 1741 then (bif Nat.blt i 1740 then [] else []) else (bif Nat.blt i 1742 then [] else (bif Nat.blt i 1743 then [] else [])))) else (bif Nat.blt i 1748 then (bif Nat.blt i 1746 then (bif Nat.blt i 1745 then [] else []) else (bif Nat.blt i 1747 then [] else [])) else (bif Nat.blt i 1750 then (bif Nat.blt i 1749 then [] else []) else (bif Nat.blt i 1751 then [] else (bif Nat.blt i 1752 then [] else []))))) else (bif Nat.blt i 1762 then (bif Nat.blt i 1757 then (bif Nat.blt i 1755 then (bif Nat.blt i 1754 then [] else []) else (bif Nat.blt i 1756 then [] else [])) else (bif Nat.blt i 1759 then (bif Nat.blt i 1758 then [] else []) else (bif Nat.blt i 1760 then [] else (bif Nat.blt i 1761 then [] else [])))) else (bif Nat.blt i 1766 then (bif Nat.blt i 1764 then (bif Nat.blt i 1763 then [] else []) else (bif Nat.blt i 1765 then [] else [])) else (bif Nat.blt i 1768 then (bif Nat.blt i 1767 then [] else []) else (bif Nat.blt i 1769 then [] else (bif Nat.blt i 1770 then [] else [])))))) else (bif Nat.blt i 1789 then (bif Nat.blt i 1780 then (bif Nat.blt i 1775 then (bif Nat.blt i 1773 then (bif Nat.blt i 1772 then [] else []) else (bif Nat.blt i 1774 then [] else [])) else (bif Nat.blt i 1777 then (bif Nat.blt i 1776 then [] else []) else (bif Nat.blt i 1778 then [] else (bif Nat.blt i 1779 then [] else [])))) else (bif Nat.blt i 1784 then (bif Nat.blt i 1782 then (bif Nat.blt i 1781 then [] else []) else (bif Nat.blt i 1783 then [] else [])) else (bif Nat.blt i 1786 then (bif Nat.blt i 1785 then [] else []) else (bif Nat.blt i 1787 then [] else (bif Nat.blt i 1788 then [] else []))))) else (bif Nat.blt i 1798 then (bif Nat.blt i 1793 then (bif Nat.blt i 1791 then (bif Nat.blt i 1790 then [] else []) else (bif Nat.blt i 1792 then [] else [])) else (bif Nat.blt i 1795 then (bif Nat.blt i 1794 then [] else []) else (bif Nat.blt i 1796 then [] else (bif Nat.blt i 1797 then [] else [])))) else (bif Nat.blt i 1802 then (bif Nat.blt i 1800 then (bif Nat.blt i 1799 then [] else []) else (bif Nat.blt i 1801 then [] else [])) else (bif Nat.blt i 1804 then (bif Nat.blt i 1803 then [] else []) else (bif Nat.blt i 1805 then [] else (bif Nat.blt i 1806 then [] else []))))))) else (bif Nat.blt i 1843 then (bif Nat.blt i 1825 then (bif Nat.blt i 1816 then (bif Nat.blt i 1811 then (bif Nat.blt i 1809 then (bif Nat.blt i 1808 then [] else []) else (bif Nat.blt i 1810 then [] else [])) else (bif Nat.blt i 1813 then (bif Nat.blt i 1812 then [] else []) else (bif Nat.blt i 1814 then [] else (bif Nat.blt i 1815 then [] else [])))) else (bif Nat.blt i 1820 then (bif Nat.blt i 1818 then (bif Nat.blt i 1817 then [] else []) else (bif Nat.blt i 1819 then [] else [])) else (bif Nat.blt i 1822 then (bif Nat.blt i 1821 then [] else []) else (bif Nat.blt i 1823 then [] else (bif Nat.blt i 1824 then [] else []))))) else (bif Nat.blt i 1834 then (bif Nat.blt i 1829 then (bif Nat.blt i 1827 then (bif Nat.blt i 1826 then [] else []) else (bif Nat.blt i 1828 then [] else [])) else (bif Nat.blt i 1831 then (bif Nat.blt i 1830 then [] else []) else (bif Nat.blt i 1832 then [] else (bif Nat.blt i 1833 then [] else [])))) else (bif Nat.blt i 1838 then (bif Nat.blt i 1836 then (bif Nat.blt i 1835 then [] else []) else (bif Nat.blt i 1837 then [] else [])) else (bif Nat.blt i 1840 then (bif Nat.blt i 1839 then [] else []) else (bif Nat.blt i 1841 then [] else (bif Nat.blt i 1842 then [] else [])))))) else (bif Nat.blt i 1861 then (bif Nat.blt i 1852 then (bif Nat.blt i 1847 then (bif Nat.blt i 1845 then (bif Nat.blt i 1844 then [] else []) else (bif Nat.blt i 1846 then [] else [])) else (bif Nat.blt i 1849 then (bif Nat.blt i 1848 then [] else []) else (bif Nat.blt i 1850 then [] else (bif Nat.blt i 1851 then [] else [])))) else (bif Nat.blt i 1856 then (bif Nat.blt i 1854 then (bif Nat.blt i 1853 then [] else []) else (bif Nat.blt i 1855 then [] else [])) else (bif Nat.blt i 1858 then (bif Nat.blt i 1857 then [] else []) else (bif Nat.blt i 1859 then [] else (bif Nat.blt i 1860 then [] else []))))) else (bif Nat.blt i 1870 then (bif Nat.blt i 1865 then (bif Nat.blt i 1863 then (bif Nat.blt i 1862 then [] else []) else (bif Nat.blt i 1864 then [] else [])) else (bif Nat.blt i 1867 then (bif Nat.blt i 1866 then [] else []) else (bif Nat.blt i 1868 then [] else (bif Nat.blt i 1869 then [] else [])))) else (bif Nat.blt i 1874 then (bif Nat.blt i 1872 then (bif Nat.blt i 1871 then [] else []) else (bif Nat.blt i 1873 then [] else [])) else (bif Nat.blt i 1876 then (bif Nat.blt i 1875 then [] else []) else (bif Nat.blt i 1877 then [] else (bif Nat.blt i 1878 then [] else [])))))))) else (bif Nat.blt i 1951 then (bif Nat.blt i 1915 then (bif Nat.blt i 1897 then (bif Nat.blt i 1888 then (bif Nat.blt i 1883 then (bif Nat.blt i 1881 then (bif Nat.blt i 1880 then [] else []) else (bif Nat.blt i 1882 then [] else [])) else (bif Nat.blt i 1885 then (bif Nat.blt i 1884 then [1, 13, 25, 208] else [6, 208]) else (bif Nat.blt i 1886 then [9, 208] else (bif Nat.blt i 1887 then [10, 208] else [1, 13, 38, 209])))) else (bif Nat.blt i 1892 then (bif Nat.blt i 1890 then (bif Nat.blt i 1889 then [6, 209] else [9, 209]) else (bif Nat.blt i 1891 then [10, 209] else [1, 12, 216, 210])) else (bif Nat.blt i 1894 then (bif Nat.blt i 1893 then [7, 210] else [10, 210]) else (bif Nat.blt i 1895 then [1, 13, 43, 211] else (bif Nat.blt i 1896 then [6, 211] else [9, 211]))))) else (bif Nat.blt i 1906 then (bif Nat.blt i 1901 then (bif Nat.blt i 1899 then (bif Nat.blt i 1898 then [10, 211] else [1, 12, 220, 212]) else (bif Nat.blt i 1900 then [] else [6, 212])) else (bif Nat.blt i 1903 then (bif Nat.blt i 1902 then [10, 212] else [1, 13, 47, 213]) else (bif Nat.blt i 1904 then [6, 213] else (bif Nat.blt i 1905 then [9, 213] else [10, 213])))) else (bif Nat.blt i 1910 then (bif Nat.blt i 1908 then (bif Nat.blt i 1907 then [1, 13, 51, 214] else [6, 214]) else (bif Nat.blt i 1909 then [9, 214] else [10, 214])) else (bif Nat.blt i 1912 then (bif Nat.blt i 1911 then [1, 12, 226, 215] else []) else (bif Nat.blt i 1913 then [6, 215] else (bif Nat.blt i 1914 then [10, 215] else [1, 12, 209, 216])))))) else (bif Nat.blt i 1933 then (bif Nat.blt i 1924 then (bif Nat.blt i 1919 then (bif Nat.blt i 1917 then (bif Nat.blt i 1916 then [] else [6, 216]) else (bif Nat.blt i 1918 then [10, 216] else [1, 12, 229, 217])) else (bif Nat.blt i 1921 then (bif Nat.blt i 1920 then [] else [6, 217]) else (bif Nat.blt i 1922 then [10, 217] else (bif Nat.blt i 1923 then [1, 13, 56, 218] else [6, 218])))) else (bif Nat.blt i 1928 then (bif Nat.blt i 1926 then (bif Nat.blt i 1925 then [9, 218] else [10, 218]) else (bif Nat.blt i 1927 then [1, 12, 233, 219] else [7, 219])) else (bif Nat.blt i 1930 then (bif Nat.blt i 1929 then [10, 219] else [1, 13, 61, 220]) else (bif Nat.blt i 1931 then [6, 220] else (bif Nat.blt i 1932 then [9, 220] else [10, 220]))))) else (bif Nat.blt i 1942 then (bif Nat.blt i 1937 then (bif Nat.blt i 1935 then (bif Nat.blt i 1934 then [1, 13, 65, 221] else [6, 221]) else (bif Nat.blt i 1936 then [9, 221] else [10, 221])) else (bif Nat.blt i 1939 then (bif Nat.blt i 1938 then [1, 13, 109, 222] else [6, 222]) else (bif Nat.blt i 1940 then [9, 222] else (bif Nat.blt i 1941 then [10, 222] else [1, 12, 237, 223])))) else (bif Nat.blt i 1946 then (bif Nat.blt i 1944 then (bif Nat.blt i 1943 then [] else [6, 223]) else (bif Nat.blt i 1945 then [10, 223] else [1, 12, 240, 224])) else (bif Nat.blt i 1948 then (bif Nat.blt i 1947 then [] else [6, 224]) else (bif Nat.blt i 1949 then [10, 224] else (bif Nat.blt i 1950 then [1, 13, 29, 225] else [6, 225]))))))) else (bif Nat.blt i 1987 then (bif Nat.blt i 1969 then (bif Nat.blt i 1960 then (bif Nat.blt i 1955 then (bif Nat.blt i 1953 then (bif Nat.blt i 1952 then [9, 225] else [10, 225]) else (bif Nat.blt i 1954 then [1, 12, 316, 226] else [])) else (bif Nat.blt i 1957 then (bif Nat.blt i 1956 then [6, 226] else [10, 226]) else (bif Nat.blt i 1958 then [1, 12, 263, 227] else (bif Nat.blt i 1959 then [] else [6, 227])))) else (bif Nat.blt i 1964 then (bif Nat.blt i 1962 then (bif Nat.blt i 1961 then [10, 227] else [1, 12, 266, 228]) else (bif Nat.blt i 1963 then [] else [6, 228])) else (bif Nat.blt i 1966 then (bif Nat.blt i 1965 then [10, 228] else [1, 12, 272, 229]) else (bif Nat.blt i 1967 then [] else (bif Nat.blt i 1968 then [6, 229] else [10, 229]))))) else (bif Nat.blt i 1978 then (bif Nat.blt i 1973 then (bif Nat.blt i 1971 then (bif Nat.blt i 1970 then [] else [1, 12, 276, 230]) else (bif Nat.blt i 1972 then [] else [6, 230])) else (bif Nat.blt i 1975 then (bif Nat.blt i 1974 then [10, 230] else [1, 12, 256, 231]) else (bif Nat.blt i 1976 then [] else (bif Nat.blt i 1977 then [6, 231] else [10, 231])))) else (bif Nat.blt i 1982 then (bif Nat.blt i 1980 then (bif Nat.blt i 1979 then [1, 12, 350, 232] else []) else (bif Nat.blt i 1981 then [6, 232] else [10, 232])) else (bif Nat.blt i 1984 then (bif Nat.blt i 1983 then [1, 12, 282, 233] else []) else (bif Nat.blt i 1985 then [6, 233] else (bif Nat.blt i 1986 then [10, 233] else [1, 12, 347, 234])))))) else (bif Nat.blt i 2005 then (bif Nat.blt i 1996 then (bif Nat.blt i 1991 then (bif Nat.blt i 1989 then (bif Nat.blt i 1988 then [] else [6, 234]) else (bif Nat.blt i 1990 then [10, 234] else [1, 12, 337, 235])) else (bif Nat.blt i 1993 then (bif Nat.blt i 1992 then [] else [6, 235]) else (bif Nat.blt i 1994 then [10, 235] else (bif Nat.blt i 1995 then [1, 12, 319, 236] else [])))) else (bif Nat.blt i 2000 then (bif Nat.blt i 1998 then (bif Nat.blt i 1997 then [6, 236] else [10, 236]) else (bif Nat.blt i 1999 then [1, 12, 308, 237] else [])) else (bif Nat.blt i 2002 then (bif Nat.blt i 2001 then [6, 237] else [10, 237]) else (bif Nat.blt i 2003 then [1, 12, 328, 238] else (bif Nat.blt i 2004 then [] else [6, 238]))))) else (bif Nat.blt i 2014 then (bif Nat.blt i 2009 then (bif Nat.blt i 2007 then (bif Nat.blt i 2006 then [10, 238] else [1, 12, 305, 239]) else (bif Nat.blt i 2008 then [] else [6, 239])) else (bif Nat.blt i 2011 then (bif Nat.blt i 2010 then [10, 239] else [1, 12, 301, 240]) else (bif Nat.blt i 2012 then [] else (bif Nat.blt i 2013 then [6, 240] else [10, 240])))) else (bif Nat.blt i 2019 then (bif Nat.blt i 2016 then (bif Nat.blt i 2015 then [1, 12, 341, 241] else []) else (bif Nat.blt i 2017 then [6, 241] else (bif Nat.blt i 2018 then [10, 241] else [1, 12, 344, 242]))) else (bif Nat.blt i 2021 then (bif Nat.blt i 2020 then [] else [6, 242]) else (bif Nat.blt i 2022 then [10, 242] else (bif Nat.blt i 2023 then [1, 12, 294, 243] else [7, 243]))))))))) else (bif Nat.blt i 2169 then (bif Nat.blt i 2096 then (bif Nat.blt i 2060 then (bif Nat.blt i 2042 then (bif Nat.blt i 2033 then (bif Nat.blt i 2028 then (bif Nat.blt i 2026 then (bif Nat.blt i 2025 then [10, 243] else [1, 12, 334, 244]) else (bif Nat.blt i 2027 then [] else [6, 244])) else (bif Nat.blt i 2030 then (bif Nat.blt i 2029 then [10, 244] else [1, 12, 297, 245]) else (bif Nat.blt i 2031 then [] else (bif Nat.blt i 2032 then [6, 245] else [10, 245])))) else (bif Nat.blt i 2037 then (bif Nat.blt i 2035 then (bif Nat.blt i 2034 then [1, 13, 34, 246] else [6, 246]) else (bif Nat.blt i 2036 then [9, 246] else [10, 246])) else (bif Nat.blt i 2039 then (bif Nat.blt i 2038 then [1, 13, 70, 247] else [6, 247]) else (bif Nat.blt i 2040 then [9, 247] else (bif Nat.blt i 2041 then [10, 247] else [1, 12, 356, 248]))))) else (bif Nat.blt i 2051 then (bif Nat.blt i 2046 then (bif Nat.blt i 2044 then (bif Nat.blt i 2043 then [] else [6, 248]) else (bif Nat.blt i 2045 then [10, 248] else [1, 13, 75, 249])) else (bif Nat.blt i 2048 then (bif Nat.blt i 2047 then [6, 249] else [9, 249]) else (bif Nat.blt i 2049 then [10, 249] else (bif Nat.blt i 2050 then [1, 13, 80, 250] else [6, 250])))) else (bif Nat.blt i 2055 then (bif Nat.blt i 2053 then (bif Nat.blt i 2052 then [9, 250] else [10, 250]) else (bif Nat.blt i 2054 then [1, 13, 84, 251] else [6, 251])) else (bif Nat.blt i 2057 then (bif Nat.blt i 2056 then [9, 251] else [10, 251]) else (bif Nat.blt i 2058 then [1, 12, 413, 252] else (bif Nat.blt i 2059 then [] else [6, 252])))))) else (bif Nat.blt i 2078 then (bif Nat.blt i 2069 then (bif Nat.blt i 2064 then (bif Nat.blt i 2062 then (bif Nat.blt i 2061 then [10, 252] else [1, 12, 416, 253]) else (bif Nat.blt i 2063 then [] else [6, 253])) else (bif Nat.blt i 2066 then (bif Nat.blt i 2065 then [10, 253] else [1, 12, 400, 254]) else (bif Nat.blt i 2067 then [] else (bif Nat.blt i 2068 then [6, 254] else [10, 254])))) else (bif Nat.blt i 2073 then (bif Nat.blt i 2071 then (bif Nat.blt i 2070 then [1, 12, 397, 255] else []) else (bif Nat.blt i 2072 then [6, 255] else [10, 255])) else (bif Nat.blt i 2075 then (bif Nat.blt i 2074 then [1, 12, 393, 256] else []) else (bif Nat.blt i 2076 then [6, 256] else (bif Nat.blt i 2077 then [10, 256] else [1, 12, 384, 257]))))) else (bif Nat.blt i 2087 then (bif Nat.blt i 2082 then (bif Nat.blt i 2080 then (bif Nat.blt i 2079 then [] else [6, 257]) else (bif Nat.blt i 2081 then [10, 257] else [1, 12, 378, 258])) else (bif Nat.blt i 2084 then (bif Nat.blt i 2083 then [] else [6, 258]) else (bif Nat.blt i 2085 then [10, 258] else (bif Nat.blt i 2086 then [1, 12, 381, 259] else [])))) else (bif Nat.blt i 2091 then (bif Nat.blt i 2089 then (bif Nat.blt i 2088 then [6, 259] else [10, 259]) else (bif Nat.blt i 2090 then [1, 12, 371, 260] else [7, 260])) else (bif Nat.blt i 2093 then (bif Nat.blt i 2092 then [10, 260] else [1, 12, 387, 261]) else (bif Nat.blt i 2094 then [] else (bif Nat.blt i 2095 then [6, 261] else [10, 261]))))))) else (bif Nat.blt i 2132 then (bif Nat.blt i 2114 then (bif Nat.blt i 2105 then (bif Nat.blt i 2100 then (bif Nat.blt i 2098 then (bif Nat.blt i 2097 then [1, 12, 375, 262] else []) else (bif Nat.blt i 2099 then [6, 262] else [10, 262])) else (bif Nat.blt i 2102 then (bif Nat.blt i 2101 then [1, 12, 365, 263] else [7, 263]) else (bif Nat.blt i 2103 then [10, 263] else (bif Nat.blt i 2104 then [] else [])))) else (bif Nat.blt i 2109 then (bif Nat.blt i 2107 then (bif Nat.blt i 2106 then [1, 12, 419, 264] else []) else (bif Nat.blt i 2108 then [6, 264] else [10, 264])) else (bif Nat.blt i 2111 then (bif Nat.blt i 2110 then [1, 12, 404, 265] else []) else (bif Nat.blt i 2112 then [6, 265] else (bif Nat.blt i 2113 then [10, 265] else [1, 12, 407, 266]))))) else (bif Nat.blt i 2123 then (bif Nat.blt i 2118 then (bif Nat.blt i 2116 then (bif Nat.blt i 2115 then [] else [6, 266]) else (bif Nat.blt i 2117 then [10, 266] else [1, 12, 410, 267])) else (bif Nat.blt i 2120 then (bif Nat.blt i 2119 then [] else [6, 267]) else (bif Nat.blt i 2121 then [10, 267] else (bif Nat.blt i 2122 then [1, 13, 88, 268] else [6, 268])))) else (bif Nat.blt i 2127 then (bif Nat.blt i 2125 then (bif Nat.blt i 2124 then [9, 268] else [10, 268]) else (bif Nat.blt i 2126 then [1, 13, 92, 269] else [6, 269])) else (bif Nat.blt i 2129 then (bif Nat.blt i 2128 then [9, 269] else [10, 269]) else (bif Nat.blt i 2130 then [1, 13, 97, 270] else (bif Nat.blt i 2131 then [6, 270] else [9, 270])))))) else (bif Nat.blt i 2150 then (bif Nat.blt i 2141 then (bif Nat.blt i 2136 then (bif Nat.blt i 2134 then (bif Nat.blt i 2133 then [10, 270] else [1, 13, 101, 271]) else (bif Nat.blt i 2135 then [6, 271] else [9, 271])) else (bif Nat.blt i 2138 then (bif Nat.blt i 2137 then [10, 271] else [1, 12, 422, 272]) else (bif Nat.blt i 2139 then [] else (bif Nat.blt i 2140 then [6, 272] else [10, 272])))) else (bif Nat.blt i 2145 then (bif Nat.blt i 2143 then (bif Nat.blt i 2142 then [1, 13, 105, 273] else [6, 273]) else (bif Nat.blt i 2144 then [9, 273] else [10, 273])) else (bif Nat.blt i 2147 then (bif Nat.blt i 2146 then [1, 13, 113, 274] else [6, 274]) else (bif Nat.blt i 2148 then [9, 274] else (bif Nat.blt i 2149 then [10, 274] else [1, 12, 431, 275]))))) else (bif Nat.blt i 2159 then (bif Nat.blt i 2154 then (bif Nat.blt i 2152 then (bif Nat.blt i 2151 then [] else [6, 275]) else (bif Nat.blt i 2153 then [10, 275] else [1, 12, 434, 276])) else (bif Nat.blt i 2156 then (bif Nat.blt i 2155 then [] else [6, 276]) else (bif Nat.blt i 2157 then [10, 276] else (bif Nat.blt i 2158 then [1, 12, 437, 277] else [])))) else (bif Nat.blt i 2164 then (bif Nat.blt i 2161 then (bif Nat.blt i 2160 then [6, 277] else [10, 277]) else (bif Nat.blt i 2162 then [1, 12, 440, 278] else (bif Nat.blt i 2163 then [] else [6, 278]))) else (bif Nat.blt i 2166 then (bif Nat.blt i 2165 then [10, 278] else [1, 12, 443, 279]) else (bif Nat.blt i 2167 then [] else (bif Nat.blt i 2168 then [6, 279] else [10, 279])))))))) else (bif Nat.blt i 2241 then (bif Nat.blt i 2205 then (bif Nat.blt i 2187 then (bif Nat.blt i 2178 then (bif Nat.blt i 2173 then (bif Nat.blt i 2171 then (bif Nat.blt i 2170 then [1, 12, 446, 280] else []) else (bif Nat.blt i 2172 then [6, 280] else [10, 280])) else (bif Nat.blt i 2175 then (bif Nat.blt i 2174 then [1, 13, 117, 281] else [6, 281]) else (bif Nat.blt i 2176 then [9, 281] else (bif Nat.blt i 2177 then [10, 281] else [1, 12, 459, 282])))) else (bif Nat.blt i 2182 then (bif Nat.blt i 2180 then (bif Nat.blt i 2179 then [] else [6, 282]) else (bif Nat.blt i 2181 then [10, 282] else [1, 12, 456, 283])) else (bif Nat.blt i 2184 then (bif Nat.blt i 2183 then [] else [6, 283]) else (bif Nat.blt i 2185 then [10, 283] else (bif Nat.blt i 2186 then [] else [1, 13, 121, 284]))))) else (bif Nat.blt i 2196 then (bif Nat.blt i 2191 then (bif Nat.blt i 2189 then (bif Nat.blt i 2188 then [6, 284] else [9, 284]) else (bif Nat.blt i 2190 then [10, 284] else [1, 13, 126, 285])) else (bif Nat.blt i 2193 then (bif Nat.blt i 2192 then [6, 285] else [9, 285]) else (bif Nat.blt i 2194 then [10, 285] else (bif Nat.blt i 2195 then [1, 13, 130, 286] else [6, 286])))) else (bif Nat.blt i 2200 then (bif Nat.blt i 2198 then (bif Nat.blt i 2197 then [9, 286] else [10, 286]) else (bif Nat.blt i 2199 then [1, 13, 134, 287] else [6, 287])) else (bif Nat.blt i 2202 then (bif Nat.blt i 2201 then [9, 287] else [10, 287]) else (bif Nat.blt i 2203 then [1, 12, 468, 288] else (bif Nat.blt i 2204 then [] else [6, 288])))))) else (bif Nat.blt i 2223 then (bif Nat.blt i 2214 then (bif Nat.blt i 2209 then (bif Nat.blt i 2207 then (bif Nat.blt i 2206 then [10, 288] else [1, 12, 462, 289]) else (bif Nat.blt i 2208 then [] else [6, 289])) else (bif Nat.blt i 2211 then (bif Nat.blt i 2210 then [10, 289] else [1, 12, 465, 290]) else (bif Nat.blt i 2212 then [] else (bif Nat.blt i 2213 then [6, 290] else [10, 290])))) else (bif Nat.blt i 2218 then (bif Nat.blt i 2216 then (bif Nat.blt i 2215 then [1, 13, 138, 291] else [6, 291]) else (bif Nat.blt i 2217 then [9, 291] else [10, 291])) else (bif Nat.blt i 2220 then (bif Nat.blt i 2219 then [1, 13, 142, 292] else [6, 292]) else (bif Nat.blt i 2221 then [9, 292] else (bif Nat.blt i 2222 then [10, 292] else [1, 12, 474, 293]))))) else (bif Nat.blt i 2232 then (bif Nat.blt i 2227 then (bif Nat.blt i 2225 then (bif Nat.blt i 2224 then [] else [6, 293]) else (bif Nat.blt i 2226 then [10, 293] else [1, 13, 146, 294])) else (bif Nat.blt i 2229 then (bif Nat.blt i 2228 then [6, 294] else [9, 294]) else (bif Nat.blt i 2230 then [10, 294] else (bif Nat.blt i 2231 then [1, 13, 150, 295] else [6, 295])))) else (bif Nat.blt i 2236 then (bif Nat.blt i 2234 then (bif Nat.blt i 2233 then [9, 295] else [10, 295]) else (bif Nat.blt i 2235 then [1, 13, 154, 296] else [6, 296])) else (bif Nat.blt i 2238 then (bif Nat.blt i 2237 then [9, 296] else [10, 296]) else (bif Nat.blt i 2239 then [1, 12, 477, 297] else (bif Nat.blt i 2240 then [] else [6, 297]))))))) else (bif Nat.blt i 2277 then (bif Nat.blt i 2259 then (bif Nat.blt i 2250 then (bif Nat.blt i 2245 then (bif Nat.blt i 2243 then (bif Nat.blt i 2242 then [10, 297] else [1, 13, 158, 298]) else (bif Nat.blt i 2244 then [6, 298] else [9, 298])) else (bif Nat.blt i 2247 then (bif Nat.blt i 2246 then [10, 298] else [1, 12, 486, 299]) else (bif Nat.blt i 2248 then [] else (bif Nat.blt i 2249 then [6, 299] else [10, 299])))) else (bif Nat.blt i 2254 then (bif Nat.blt i 2252 then (bif Nat.blt i 2251 then [1, 12, 480, 300] else []) else (bif Nat.blt i 2253 then [6, 300] else [10, 300])) else (bif Nat.blt i 2256 then (bif Nat.blt i 2255 then [1, 12, 498, 301] else []) else (bif Nat.blt i 2257 then [6, 301] else (bif Nat.blt i 2258 then [10, 301] else [1, 12, 495, 302]))))) else (bif Nat.blt i 2268 then (bif Nat.blt i 2263 then (bif Nat.blt i 2261 then (bif Nat.blt i 2260 then [] else [6, 302]) else (bif Nat.blt i 2262 then [10, 302] else [1, 12, 489, 303])) else (bif Nat.blt i 2265 then (bif Nat.blt i 2264 then [] else [6, 303]) else (bif Nat.blt i 2266 then [10, 303] else (bif Nat.blt i 2267 then [1, 12, 492, 304] else [])))) else (bif Nat.blt i 2272 then (bif Nat.blt i 2270 then (bif Nat.blt i 2269 then [6, 304] else [10, 304]) else (bif Nat.blt i 2271 then [1, 13, 162, 305] else [6, 305])) else (bif Nat.blt i 2274 then (bif Nat.blt i 2273 then [9, 305] else [10, 305]) else (bif Nat.blt i 2275 then [1, 13, 166, 306] else (bif Nat.blt i 2276 then [6, 306] else [9, 306])))))) else (bif Nat.blt i 2295 then (bif Nat.blt i 2286 then (bif Nat.blt i 2281 then (bif Nat.blt i 2279 then (bif Nat.blt i 2278 then [10, 306] else [1, 13, 170, 307]) else (bif Nat.blt i 2280 then [6, 307] else [9, 307])) else (bif Nat.blt i 2283 then (bif Nat.blt i 2282 then [10, 307] else [1, 13, 176, 308]) else (bif Nat.blt i 2284 then [6, 308] else (bif Nat.blt i 2285 then [9, 308] else [10, 308])))) else (bif Nat.blt i 2290 then (bif Nat.blt i 2288 then (bif Nat.blt i 2287 then [1, 12, 501, 309] else []) else (bif Nat.blt i 2289 then [6, 309] else [10, 309])) else (bif Nat.blt i 2292 then (bif Nat.blt i 2291 then [1, 13, 180, 310] else [6, 310]) else (bif Nat.blt i 2293 then [9, 310] else (bif Nat.blt i 2294 then [10, 310] else []))))) else (bif Nat.blt i 2304 then (bif Nat.blt i 2299 then (bif Nat.blt i 2297 then (bif Nat.blt i 2296 then [] else []) else (bif Nat.blt i 2298 then [] else [])) else (bif Nat.blt i 2301 then (bif Nat.blt i 2300 then [] else []) else (bif Nat.blt i 2302 then [] else (bif Nat.blt i 2303 then [] else [])))) else (bif Nat.blt i 2309 then (bif Nat.blt i 2306 then (bif Nat.blt i 2305 then [] else []) else (bif Nat.blt i 2307 then [] else (bif Nat.blt i 2308 then [] else []))) else (bif Nat.blt i 2311 then (bif Nat.blt i 2310 then [] else []) else (bif Nat.blt i 2312 then [] else (bif Nat.blt i 2313 then [] else []))))))))))))
def lnb : List Nat → List Nat → Bool
  | [], [] => true
  | a :: l, b :: m => Nat.beq a b && lnb l m
  | _, _ => false
theorem lnb_eq : ∀ (l m : List Nat), lnb l m = true → l = m
  | [], [], _ => rfl
  | [], _ :: _, h => by cases h
  | _ :: _, [], h => by cases h
  | a :: l, b :: m, h => by
    have h := Bool.and_eq_true_iff.mp (show (Nat.beq a b && lnb l m) = true from h)
    rw [Nat.eq_of_beq_eq_true h.1, lnb_eq l m h.2]
theorem ba {a b : Bool} (h : (a && b) = true) : a = true ∧ b = true := Bool.and_eq_true_iff.mp h
theorem nnlt {a b : Nat} (h : Nat.blt a b = true) : a < b := Nat.lt_of_lt_of_le (Nat.lt_succ_self a) (Nat.le_of_ble_eq_true h)
theorem nle {a b : Nat} (h : Nat.ble a b = true) : a ≤ b := Nat.le_of_ble_eq_true h
theorem neq {a b : Nat} (h : Nat.beq a b = true) : a = b := Nat.eq_of_beq_eq_true h
def enK (p : Nat) (e : List Nat ⊕ Cond) : Bool := match enT p with
  | [] => true
  | a :: m => (match e with
    | .inl d => lnb d (a :: m)
    | _ => false)
def enG : Nat → List (List Nat ⊕ Cond) → Bool
  | _, [] => true
  | k, e :: l => enK k e && enG (k + 1) l
theorem enG_ok : ∀ (l : List (List Nat ⊕ Cond)) (k : Nat), enG k l = true → ∀ (j : Nat) (e : List Nat ⊕ Cond), l[j]? = some e → enK (k + j) e = true
  | [], _, _, _, _, h => by simp at h
  | x :: l, k, h, 0, e, he => by
    have h := (ba h).1
    rw [List.getElem?_cons_zero] at he
    rw [← Option.some.inj he]
    exact h
  | x :: l, k, h, j + 1, e, he => by
    have h := enG_ok l (k + 1) (ba h).2 j e (by rw [List.getElem?_cons_succ] at he; exact he)
    rw [show k + (j + 1) = k + 1 + j by omega]
    exact h
theorem enG_all : enG 0 ent = true := by decide +kernel
theorem en_len : ent.length = 2314 := by decide +kernel

def wc (p : Nat) (c : List Nat) : Bool := Nat.blt p 2314 && lnb (enT p) c
theorem wc_ok {p x : Nat} {c : List Nat} (h : wc p (x :: c) = true) : lw_tbl[p]? = some (dw (x :: c)) := by
  have h := ba h
  have hp : p < 2314 := Nat.lt_of_lt_of_le (Nat.lt_succ_self p) (Nat.le_of_ble_eq_true h.1)
  obtain ⟨e, he⟩ : ∃ e, ent[p]? = some e := ⟨_, List.getElem?_eq_getElem (by rw [en_len]; exact hp)⟩
  have hq := enG_ok ent 0 enG_all p e he
  rw [Nat.zero_add] at hq
  unfold enK at hq
  rw [lnb_eq _ _ h.2] at hq
  rw [le_all, List.getElem?_map, he]
  cases e with
  | inl d =>
    have hq : lnb d (x :: c) = true := hq
    rw [lnb_eq _ _ hq]
    rfl
  | inr w => cases hq
theorem wc_wi {p x : Nat} {c : List Nat} {w : Cond} (h : wc p (x :: c) = true) (hw : dw (x :: c) = w) (hg : goodWord w = true) : wi p w = true := by
  subst hw
  unfold wi
  rw [wc_ok h, hg, decide_eq_true rfl]
  rfl
theorem wc_wn {p x : Nat} {c : List Nat} {w : Cond} (h : wc p (x :: c) = true) (hw : dw (x :: c) = w) : wn p w = true := by
  subst hw
  unfold wn
  rw [wc_ok h, decide_eq_true rfl]
end
section
/-! Numbers of the methods. -/
def mc (i : Nat) : Nat := (bif Nat.blt i 158 then (bif Nat.blt i 79 then (bif Nat.blt i 39 then (bif Nat.blt i 19 then (bif Nat.blt i 9 then (bif Nat.blt i 4 then (bif Nat.blt i 2 then (bif Nat.blt i 1 then 0 else 0) else (bif Nat.blt i 3 then 0 else 0)) else (bif Nat.blt i 6 then (bif Nat.blt i 5 then 0 else 0) else (bif Nat.blt i 7 then 0 else (bif Nat.blt i 8 then 0 else 0)))) else (bif Nat.blt i 14 then (bif Nat.blt i 11 then (bif Nat.blt i 10 then 0 else 0) else (bif Nat.blt i 12 then 0 else (bif Nat.blt i 13 then 0 else 0))) else (bif Nat.blt i 16 then (bif Nat.blt i 15 then 0 else 0) else (bif Nat.blt i 17 then 0 else (bif Nat.blt i 18 then 0 else 0))))) else (bif Nat.blt i 29 then (bif Nat.blt i 24 then (bif Nat.blt i 21 then (bif Nat.blt i 20 then 0 else 0) else (bif Nat.blt i 22 then 1 else (bif Nat.blt i 23 then 1 else 1))) else (bif Nat.blt i 26 then (bif Nat.blt i 25 then 1 else 1) else (bif Nat.blt i 27 then 1 else (bif Nat.blt i 28 then 1 else 1)))) else (bif Nat.blt i 34 then (bif Nat.blt i 31 then (bif Nat.blt i 30 then 1 else 1) else (bif Nat.blt i 32 then 1 else (bif Nat.blt i 33 then 1 else 1))) else (bif Nat.blt i 36 then (bif Nat.blt i 35 then 1 else 1) else (bif Nat.blt i 37 then 1 else (bif Nat.blt i 38 then 1 else 1)))))) else (bif Nat.blt i 59 then (bif Nat.blt i 49 then (bif Nat.blt i 44 then (bif Nat.blt i 41 then (bif Nat.blt i 40 then 2 else 2) else (bif Nat.blt i 42 then 2 else (bif Nat.blt i 43 then 2 else 2))) else (bif Nat.blt i 46 then (bif Nat.blt i 45 then 2 else 2) else (bif Nat.blt i 47 then 3 else (bif Nat.blt i 48 then 3 else 3)))) else (bif Nat.blt i 54 then (bif Nat.blt i 51 then (bif Nat.blt i 50 then 3 else 3) else (bif Nat.blt i 52 then 3 else (bif Nat.blt i 53 then 3 else 3))) else (bif Nat.blt i 56 then (bif Nat.blt i 55 then 3 else 3) else (bif Nat.blt i 57 then 3 else (bif Nat.blt i 58 then 3 else 3))))) else (bif Nat.blt i 69 then (bif Nat.blt i 64 then (bif Nat.blt i 61 then (bif Nat.blt i 60 then 3 else 3) else (bif Nat.blt i 62 then 3 else (bif Nat.blt i 63 then 3 else 4))) else (bif Nat.blt i 66 then (bif Nat.blt i 65 then 4 else 4) else (bif Nat.blt i 67 then 4 else (bif Nat.blt i 68 then 4 else 4)))) else (bif Nat.blt i 74 then (bif Nat.blt i 71 then (bif Nat.blt i 70 then 4 else 4) else (bif Nat.blt i 72 then 4 else (bif Nat.blt i 73 then 4 else 4))) else (bif Nat.blt i 76 then (bif Nat.blt i 75 then 4 else 4) else (bif Nat.blt i 77 then 4 else (bif Nat.blt i 78 then 4 else 4))))))) else (bif Nat.blt i 118 then (bif Nat.blt i 98 then (bif Nat.blt i 88 then (bif Nat.blt i 83 then (bif Nat.blt i 81 then (bif Nat.blt i 80 then 4 else 4) else (bif Nat.blt i 82 then 4 else 4)) else (bif Nat.blt i 85 then (bif Nat.blt i 84 then 4 else 4) else (bif Nat.blt i 86 then 4 else (bif Nat.blt i 87 then 4 else 5)))) else (bif Nat.blt i 93 then (bif Nat.blt i 90 then (bif Nat.blt i 89 then 5 else 5) else (bif Nat.blt i 91 then 5 else (bif Nat.blt i 92 then 5 else 5))) else (bif Nat.blt i 95 then (bif Nat.blt i 94 then 5 else 5) else (bif Nat.blt i 96 then 5 else (bif Nat.blt i 97 then 5 else 5))))) else (bif Nat.blt i 108 then (bif Nat.blt i 103 then (bif Nat.blt i 100 then (bif Nat.blt i 99 then 5 else 5) else (bif Nat.blt i 101 then 5 else (bif Nat.blt i 102 then 5 else 5))) else (bif Nat.blt i 105 then (bif Nat.blt i 104 then 5 else 5) else (bif Nat.blt i 106 then 5 else (bif Nat.blt i 107 then 5 else 5)))) else (bif Nat.blt i 113 then (bif Nat.blt i 110 then (bif Nat.blt i 109 then 5 else 5) else (bif Nat.blt i 111 then 5 else (bif Nat.blt i 112 then 5 else 5))) else (bif Nat.blt i 115 then (bif Nat.blt i 114 then 5 else 5) else (bif Nat.blt i 116 then 5 else (bif Nat.blt i 117 then 5 else 5)))))) else (bif Nat.blt i 138 then (bif Nat.blt i 128 then (bif Nat.blt i 123 then (bif Nat.blt i 120 then (bif Nat.blt i 119 then 6 else 6) else (bif Nat.blt i 121 then 6 else (bif Nat.blt i 122 then 6 else 6))) else (bif Nat.blt i 125 then (bif Nat.blt i 124 then 6 else 6) else (bif Nat.blt i 126 then 6 else (bif Nat.blt i 127 then 6 else 7)))) else (bif Nat.blt i 133 then (bif Nat.blt i 130 then (bif Nat.blt i 129 then 7 else 7) else (bif Nat.blt i 131 then 7 else (bif Nat.blt i 132 then 7 else 7))) else (bif Nat.blt i 135 then (bif Nat.blt i 134 then 7 else 7) else (bif Nat.blt i 136 then 7 else (bif Nat.blt i 137 then 7 else 7))))) else (bif Nat.blt i 148 then (bif Nat.blt i 143 then (bif Nat.blt i 140 then (bif Nat.blt i 139 then 7 else 7) else (bif Nat.blt i 141 then 7 else (bif Nat.blt i 142 then 7 else 7))) else (bif Nat.blt i 145 then (bif Nat.blt i 144 then 7 else 8) else (bif Nat.blt i 146 then 8 else (bif Nat.blt i 147 then 8 else 8)))) else (bif Nat.blt i 153 then (bif Nat.blt i 150 then (bif Nat.blt i 149 then 8 else 8) else (bif Nat.blt i 151 then 9 else (bif Nat.blt i 152 then 9 else 9))) else (bif Nat.blt i 155 then (bif Nat.blt i 154 then 10 else 10) else (bif Nat.blt i 156 then 10 else (bif Nat.blt i 157 then 10 else 10)))))))) else (bif Nat.blt i 237 then (bif Nat.blt i 197 then (bif Nat.blt i 177 then (bif Nat.blt i 167 then (bif Nat.blt i 162 then (bif Nat.blt i 160 then (bif Nat.blt i 159 then 10 else 10) else (bif Nat.blt i 161 then 10 else 10)) else (bif Nat.blt i 164 then (bif Nat.blt i 163 then 10 else 10) else (bif Nat.blt i 165 then 10 else (bif Nat.blt i 166 then 10 else 11)))) else (bif Nat.blt i 172 then (bif Nat.blt i 169 then (bif Nat.blt i 168 then 11 else 11) else (bif Nat.blt i 170 then 11 else (bif Nat.blt i 171 then 11 else 11))) else (bif Nat.blt i 174 then (bif Nat.blt i 173 then 11 else 11) else (bif Nat.blt i 175 then 11 else (bif Nat.blt i 176 then 11 else 11))))) else (bif Nat.blt i 187 then (bif Nat.blt i 182 then (bif Nat.blt i 179 then (bif Nat.blt i 178 then 11 else 11) else (bif Nat.blt i 180 then 11 else (bif Nat.blt i 181 then 11 else 11))) else (bif Nat.blt i 184 then (bif Nat.blt i 183 then 11 else 11) else (bif Nat.blt i 185 then 11 else (bif Nat.blt i 186 then 11 else 11)))) else (bif Nat.blt i 192 then (bif Nat.blt i 189 then (bif Nat.blt i 188 then 11 else 11) else (bif Nat.blt i 190 then 11 else (bif Nat.blt i 191 then 11 else 11))) else (bif Nat.blt i 194 then (bif Nat.blt i 193 then 11 else 11) else (bif Nat.blt i 195 then 11 else (bif Nat.blt i 196 then 11 else 11)))))) else (bif Nat.blt i 217 then (bif Nat.blt i 207 then (bif Nat.blt i 202 then (bif Nat.blt i 199 then (bif Nat.blt i 198 then 11 else 11) else (bif Nat.blt i 200 then 11 else (bif Nat.blt i 201 then 11 else 11))) else (bif Nat.blt i 204 then (bif Nat.blt i 203 then 11 else 11) else (bif Nat.blt i 205 then 11 else (bif Nat.blt i 206 then 11 else 12)))) else (bif Nat.blt i 212 then (bif Nat.blt i 209 then (bif Nat.blt i 208 then 12 else 12) else (bif Nat.blt i 210 then 12 else (bif Nat.blt i 211 then 12 else 12))) else (bif Nat.blt i 214 then (bif Nat.blt i 213 then 12 else 12) else (bif Nat.blt i 215 then 12 else (bif Nat.blt i 216 then 12 else 12))))) else (bif Nat.blt i 227 then (bif Nat.blt i 222 then (bif Nat.blt i 219 then (bif Nat.blt i 218 then 12 else 12) else (bif Nat.blt i 220 then 12 else (bif Nat.blt i 221 then 12 else 12))) else (bif Nat.blt i 224 then (bif Nat.blt i 223 then 12 else 12) else (bif Nat.blt i 225 then 12 else (bif Nat.blt i 226 then 12 else 12)))) else (bif Nat.blt i 232 then (bif Nat.blt i 229 then (bif Nat.blt i 228 then 12 else 12) else (bif Nat.blt i 230 then 12 else (bif Nat.blt i 231 then 12 else 12))) else (bif Nat.blt i 234 then (bif Nat.blt i 233 then 12 else 12) else (bif Nat.blt i 235 then 12 else (bif Nat.blt i 236 then 12 else 12))))))) else (bif Nat.blt i 276 then (bif Nat.blt i 256 then (bif Nat.blt i 246 then (bif Nat.blt i 241 then (bif Nat.blt i 239 then (bif Nat.blt i 238 then 12 else 12) else (bif Nat.blt i 240 then 12 else 12)) else (bif Nat.blt i 243 then (bif Nat.blt i 242 then 12 else 12) else (bif Nat.blt i 244 then 12 else (bif Nat.blt i 245 then 12 else 12)))) else (bif Nat.blt i 251 then (bif Nat.blt i 248 then (bif Nat.blt i 247 then 12 else 12) else (bif Nat.blt i 249 then 12 else (bif Nat.blt i 250 then 12 else 12))) else (bif Nat.blt i 253 then (bif Nat.blt i 252 then 12 else 12) else (bif Nat.blt i 254 then 12 else (bif Nat.blt i 255 then 12 else 12))))) else (bif Nat.blt i 266 then (bif Nat.blt i 261 then (bif Nat.blt i 258 then (bif Nat.blt i 257 then 12 else 12) else (bif Nat.blt i 259 then 12 else (bif Nat.blt i 260 then 12 else 12))) else (bif Nat.blt i 263 then (bif Nat.blt i 262 then 12 else 12) else (bif Nat.blt i 264 then 12 else (bif Nat.blt i 265 then 12 else 12)))) else (bif Nat.blt i 271 then (bif Nat.blt i 268 then (bif Nat.blt i 267 then 12 else 12) else (bif Nat.blt i 269 then 12 else (bif Nat.blt i 270 then 12 else 12))) else (bif Nat.blt i 273 then (bif Nat.blt i 272 then 12 else 12) else (bif Nat.blt i 274 then 12 else (bif Nat.blt i 275 then 12 else 12)))))) else (bif Nat.blt i 296 then (bif Nat.blt i 286 then (bif Nat.blt i 281 then (bif Nat.blt i 278 then (bif Nat.blt i 277 then 12 else 12) else (bif Nat.blt i 279 then 12 else (bif Nat.blt i 280 then 12 else 12))) else (bif Nat.blt i 283 then (bif Nat.blt i 282 then 12 else 12) else (bif Nat.blt i 284 then 12 else (bif Nat.blt i 285 then 12 else 12)))) else (bif Nat.blt i 291 then (bif Nat.blt i 288 then (bif Nat.blt i 287 then 12 else 12) else (bif Nat.blt i 289 then 12 else (bif Nat.blt i 290 then 12 else 12))) else (bif Nat.blt i 293 then (bif Nat.blt i 292 then 12 else 12) else (bif Nat.blt i 294 then 12 else (bif Nat.blt i 295 then 12 else 12))))) else (bif Nat.blt i 306 then (bif Nat.blt i 301 then (bif Nat.blt i 298 then (bif Nat.blt i 297 then 12 else 12) else (bif Nat.blt i 299 then 12 else (bif Nat.blt i 300 then 12 else 12))) else (bif Nat.blt i 303 then (bif Nat.blt i 302 then 12 else 12) else (bif Nat.blt i 304 then 12 else (bif Nat.blt i 305 then 12 else 12)))) else (bif Nat.blt i 311 then (bif Nat.blt i 308 then (bif Nat.blt i 307 then 12 else 12) else (bif Nat.blt i 309 then 12 else (bif Nat.blt i 310 then 12 else 12))) else (bif Nat.blt i 313 then (bif Nat.blt i 312 then 14 else 14) else (bif Nat.blt i 314 then 14 else (bif Nat.blt i 315 then 15 else 13)))))))))
def nnpr (i : Nat) : Nat := (bif Nat.blt i 158 then (bif Nat.blt i 79 then (bif Nat.blt i 39 then (bif Nat.blt i 19 then (bif Nat.blt i 9 then (bif Nat.blt i 4 then (bif Nat.blt i 2 then (bif Nat.blt i 1 then 1 else 0) else (bif Nat.blt i 3 then 1 else 2)) else (bif Nat.blt i 6 then (bif Nat.blt i 5 then 3 else 3) else (bif Nat.blt i 7 then 3 else (bif Nat.blt i 8 then 2 else 3)))) else (bif Nat.blt i 14 then (bif Nat.blt i 11 then (bif Nat.blt i 10 then 3 else 1) else (bif Nat.blt i 12 then 2 else (bif Nat.blt i 13 then 2 else 1))) else (bif Nat.blt i 16 then (bif Nat.blt i 15 then 1 else 2) else (bif Nat.blt i 17 then 2 else (bif Nat.blt i 18 then 1 else 2))))) else (bif Nat.blt i 29 then (bif Nat.blt i 24 then (bif Nat.blt i 21 then (bif Nat.blt i 20 then 1 else 3) else (bif Nat.blt i 22 then 3 else (bif Nat.blt i 23 then 0 else 1))) else (bif Nat.blt i 26 then (bif Nat.blt i 25 then 2 else 1) else (bif Nat.blt i 27 then 2 else (bif Nat.blt i 28 then 1 else 0)))) else (bif Nat.blt i 34 then (bif Nat.blt i 31 then (bif Nat.blt i 30 then 3 else 3) else (bif Nat.blt i 32 then 1 else (bif Nat.blt i 33 then 2 else 2))) else (bif Nat.blt i 36 then (bif Nat.blt i 35 then 1 else 2) else (bif Nat.blt i 37 then 1 else (bif Nat.blt i 38 then 1 else 3)))))) else (bif Nat.blt i 59 then (bif Nat.blt i 49 then (bif Nat.blt i 44 then (bif Nat.blt i 41 then (bif Nat.blt i 40 then 0 else 2) else (bif Nat.blt i 42 then 1 else (bif Nat.blt i 43 then 2 else 2))) else (bif Nat.blt i 46 then (bif Nat.blt i 45 then 2 else 2) else (bif Nat.blt i 47 then 1 else (bif Nat.blt i 48 then 1 else 1)))) else (bif Nat.blt i 54 then (bif Nat.blt i 51 then (bif Nat.blt i 50 then 1 else 1) else (bif Nat.blt i 52 then 1 else (bif Nat.blt i 53 then 2 else 0))) else (bif Nat.blt i 56 then (bif Nat.blt i 55 then 1 else 1) else (bif Nat.blt i 57 then 1 else (bif Nat.blt i 58 then 1 else 0))))) else (bif Nat.blt i 69 then (bif Nat.blt i 64 then (bif Nat.blt i 61 then (bif Nat.blt i 60 then 1 else 0) else (bif Nat.blt i 62 then 0 else (bif Nat.blt i 63 then 2 else 0))) else (bif Nat.blt i 66 then (bif Nat.blt i 65 then 0 else 1) else (bif Nat.blt i 67 then 1 else (bif Nat.blt i 68 then 3 else 5)))) else (bif Nat.blt i 74 then (bif Nat.blt i 71 then (bif Nat.blt i 70 then 3 else 1) else (bif Nat.blt i 72 then 1 else (bif Nat.blt i 73 then 1 else 1))) else (bif Nat.blt i 76 then (bif Nat.blt i 75 then 2 else 1) else (bif Nat.blt i 77 then 1 else (bif Nat.blt i 78 then 1 else 2))))))) else (bif Nat.blt i 118 then (bif Nat.blt i 98 then (bif Nat.blt i 88 then (bif Nat.blt i 83 then (bif Nat.blt i 81 then (bif Nat.blt i 80 then 2 else 1) else (bif Nat.blt i 82 then 2 else 1)) else (bif Nat.blt i 85 then (bif Nat.blt i 84 then 2 else 2) else (bif Nat.blt i 86 then 3 else (bif Nat.blt i 87 then 1 else 0)))) else (bif Nat.blt i 93 then (bif Nat.blt i 90 then (bif Nat.blt i 89 then 1 else 1) else (bif Nat.blt i 91 then 1 else (bif Nat.blt i 92 then 2 else 2))) else (bif Nat.blt i 95 then (bif Nat.blt i 94 then 2 else 1) else (bif Nat.blt i 96 then 1 else (bif Nat.blt i 97 then 1 else 3))))) else (bif Nat.blt i 108 then (bif Nat.blt i 103 then (bif Nat.blt i 100 then (bif Nat.blt i 99 then 1 else 2) else (bif Nat.blt i 101 then 3 else (bif Nat.blt i 102 then 2 else 0))) else (bif Nat.blt i 105 then (bif Nat.blt i 104 then 2 else 2) else (bif Nat.blt i 106 then 1 else (bif Nat.blt i 107 then 1 else 2)))) else (bif Nat.blt i 113 then (bif Nat.blt i 110 then (bif Nat.blt i 109 then 1 else 1) else (bif Nat.blt i 111 then 1 else (bif Nat.blt i 112 then 1 else 1))) else (bif Nat.blt i 115 then (bif Nat.blt i 114 then 2 else 1) else (bif Nat.blt i 116 then 3 else (bif Nat.blt i 117 then 0 else 1)))))) else (bif Nat.blt i 138 then (bif Nat.blt i 128 then (bif Nat.blt i 123 then (bif Nat.blt i 120 then (bif Nat.blt i 119 then 1 else 0) else (bif Nat.blt i 121 then 1 else (bif Nat.blt i 122 then 1 else 2))) else (bif Nat.blt i 125 then (bif Nat.blt i 124 then 1 else 1) else (bif Nat.blt i 126 then 3 else (bif Nat.blt i 127 then 1 else 2)))) else (bif Nat.blt i 133 then (bif Nat.blt i 130 then (bif Nat.blt i 129 then 1 else 1) else (bif Nat.blt i 131 then 2 else (bif Nat.blt i 132 then 0 else 2))) else (bif Nat.blt i 135 then (bif Nat.blt i 134 then 2 else 0) else (bif Nat.blt i 136 then 0 else (bif Nat.blt i 137 then 0 else 0))))) else (bif Nat.blt i 148 then (bif Nat.blt i 143 then (bif Nat.blt i 140 then (bif Nat.blt i 139 then 1 else 1) else (bif Nat.blt i 141 then 1 else (bif Nat.blt i 142 then 0 else 1))) else (bif Nat.blt i 145 then (bif Nat.blt i 144 then 2 else 1) else (bif Nat.blt i 146 then 0 else (bif Nat.blt i 147 then 3 else 2)))) else (bif Nat.blt i 153 then (bif Nat.blt i 150 then (bif Nat.blt i 149 then 4 else 4) else (bif Nat.blt i 151 then 0 else (bif Nat.blt i 152 then 2 else 4))) else (bif Nat.blt i 155 then (bif Nat.blt i 154 then 0 else 1) else (bif Nat.blt i 156 then 1 else (bif Nat.blt i 157 then 0 else 1)))))))) else (bif Nat.blt i 237 then (bif Nat.blt i 197 then (bif Nat.blt i 177 then (bif Nat.blt i 167 then (bif Nat.blt i 162 then (bif Nat.blt i 160 then (bif Nat.blt i 159 then 1 else 1) else (bif Nat.blt i 161 then 0 else 1)) else (bif Nat.blt i 164 then (bif Nat.blt i 163 then 0 else 1) else (bif Nat.blt i 165 then 0 else (bif Nat.blt i 166 then 1 else 0)))) else (bif Nat.blt i 172 then (bif Nat.blt i 169 then (bif Nat.blt i 168 then 5 else 2) else (bif Nat.blt i 170 then 2 else (bif Nat.blt i 171 then 1 else 1))) else (bif Nat.blt i 174 then (bif Nat.blt i 173 then 2 else 2) else (bif Nat.blt i 175 then 2 else (bif Nat.blt i 176 then 3 else 3))))) else (bif Nat.blt i 187 then (bif Nat.blt i 182 then (bif Nat.blt i 179 then (bif Nat.blt i 178 then 2 else 6) else (bif Nat.blt i 180 then 3 else (bif Nat.blt i 181 then 1 else 4))) else (bif Nat.blt i 184 then (bif Nat.blt i 183 then 1 else 2) else (bif Nat.blt i 185 then 1 else (bif Nat.blt i 186 then 2 else 2)))) else (bif Nat.blt i 192 then (bif Nat.blt i 189 then (bif Nat.blt i 188 then 3 else 1) else (bif Nat.blt i 190 then 1 else (bif Nat.blt i 191 then 1 else 2))) else (bif Nat.blt i 194 then (bif Nat.blt i 193 then 0 else 1) else (bif Nat.blt i 195 then 1 else (bif Nat.blt i 196 then 0 else 3)))))) else (bif Nat.blt i 217 then (bif Nat.blt i 207 then (bif Nat.blt i 202 then (bif Nat.blt i 199 then (bif Nat.blt i 198 then 3 else 3) else (bif Nat.blt i 200 then 3 else (bif Nat.blt i 201 then 2 else 3))) else (bif Nat.blt i 204 then (bif Nat.blt i 203 then 1 else 3) else (bif Nat.blt i 205 then 1 else (bif Nat.blt i 206 then 2 else 0)))) else (bif Nat.blt i 212 then (bif Nat.blt i 209 then (bif Nat.blt i 208 then 1 else 5) else (bif Nat.blt i 210 then 1 else (bif Nat.blt i 211 then 3 else 2))) else (bif Nat.blt i 214 then (bif Nat.blt i 213 then 1 else 2) else (bif Nat.blt i 215 then 2 else (bif Nat.blt i 216 then 1 else 1))))) else (bif Nat.blt i 227 then (bif Nat.blt i 222 then (bif Nat.blt i 219 then (bif Nat.blt i 218 then 3 else 3) else (bif Nat.blt i 220 then 1 else (bif Nat.blt i 221 then 3 else 2))) else (bif Nat.blt i 224 then (bif Nat.blt i 223 then 1 else 1) else (bif Nat.blt i 225 then 2 else (bif Nat.blt i 226 then 2 else 0)))) else (bif Nat.blt i 232 then (bif Nat.blt i 229 then (bif Nat.blt i 228 then 1 else 2) else (bif Nat.blt i 230 then 1 else (bif Nat.blt i 231 then 1 else 2))) else (bif Nat.blt i 234 then (bif Nat.blt i 233 then 0 else 1) else (bif Nat.blt i 235 then 0 else (bif Nat.blt i 236 then 0 else 1))))))) else (bif Nat.blt i 276 then (bif Nat.blt i 256 then (bif Nat.blt i 246 then (bif Nat.blt i 241 then (bif Nat.blt i 239 then (bif Nat.blt i 238 then 2 else 1) else (bif Nat.blt i 240 then 2 else 1)) else (bif Nat.blt i 243 then (bif Nat.blt i 242 then 0 else 1) else (bif Nat.blt i 244 then 1 else (bif Nat.blt i 245 then 1 else 0)))) else (bif Nat.blt i 251 then (bif Nat.blt i 248 then (bif Nat.blt i 247 then 1 else 6) else (bif Nat.blt i 249 then 1 else (bif Nat.blt i 250 then 3 else 4))) else (bif Nat.blt i 253 then (bif Nat.blt i 252 then 1 else 1) else (bif Nat.blt i 254 then 1 else (bif Nat.blt i 255 then 2 else 2))))) else (bif Nat.blt i 266 then (bif Nat.blt i 261 then (bif Nat.blt i 258 then (bif Nat.blt i 257 then 2 else 2) else (bif Nat.blt i 259 then 1 else (bif Nat.blt i 260 then 2 else 1))) else (bif Nat.blt i 263 then (bif Nat.blt i 262 then 3 else 1) else (bif Nat.blt i 264 then 1 else (bif Nat.blt i 265 then 1 else 1)))) else (bif Nat.blt i 271 then (bif Nat.blt i 268 then (bif Nat.blt i 267 then 3 else 0) else (bif Nat.blt i 269 then 2 else (bif Nat.blt i 270 then 1 else 2))) else (bif Nat.blt i 273 then (bif Nat.blt i 272 then 2 else 2) else (bif Nat.blt i 274 then 3 else (bif Nat.blt i 275 then 1 else 0)))))) else (bif Nat.blt i 296 then (bif Nat.blt i 286 then (bif Nat.blt i 281 then (bif Nat.blt i 278 then (bif Nat.blt i 277 then 0 else 0) else (bif Nat.blt i 279 then 1 else (bif Nat.blt i 280 then 0 else 0))) else (bif Nat.blt i 283 then (bif Nat.blt i 282 then 1 else 1) else (bif Nat.blt i 284 then 0 else (bif Nat.blt i 285 then 2 else 0)))) else (bif Nat.blt i 291 then (bif Nat.blt i 288 then (bif Nat.blt i 287 then 1 else 1) else (bif Nat.blt i 289 then 1 else (bif Nat.blt i 290 then 1 else 1))) else (bif Nat.blt i 293 then (bif Nat.blt i 292 then 0 else 3) else (bif Nat.blt i 294 then 1 else (bif Nat.blt i 295 then 3 else 3))))) else (bif Nat.blt i 306 then (bif Nat.blt i 301 then (bif Nat.blt i 298 then (bif Nat.blt i 297 then 3 else 2) else (bif Nat.blt i 299 then 2 else (bif Nat.blt i 300 then 1 else 2))) else (bif Nat.blt i 303 then (bif Nat.blt i 302 then 1 else 1) else (bif Nat.blt i 304 then 2 else (bif Nat.blt i 305 then 1 else 3)))) else (bif Nat.blt i 311 then (bif Nat.blt i 308 then (bif Nat.blt i 307 then 1 else 3) else (bif Nat.blt i 309 then 2 else (bif Nat.blt i 310 then 1 else 1))) else (bif Nat.blt i 313 then (bif Nat.blt i 312 then 2 else 2) else (bif Nat.blt i 314 then 1 else (bif Nat.blt i 315 then 1 else 1)))))))))
def fcl : List (List Nat) := [[0, 3, 3, 3, 3, 3, 3, 3, 3, 3, 3], [3, 3, 3, 3, 3, 0], [3, 3, 3, 3], [0, 0, 0, 0, 3, 3, 3, 3, 3, 0, 0, 0, 0, 0], [0, 3, 3, 3, 3, 3, 3, 3, 3, 3, 3, 3, 3, 3], [0, 0, 0, 0, 0, 3, 3, 3, 3, 3, 3, 3, 3, 3, 3, 3, 3], [3, 3, 3, 0, 0], [3, 3, 0, 0, 0, 0, 3, 3, 3, 3, 3, 3, 0, 0, 0, 0, 2, 0, 0, 3], [3, 0, 0, 3, 3, 3], [0, 3, 3, 3, 3], [0, 0, 0, 3, 0, 0], [3, 3, 3, 3, 3, 3, 3, 3, 3, 3, 3], [3, 0, 0, 0, 3, 3, 3, 3, 3, 3, 0, 3, 3, 3, 3, 0, 0, 3, 0, 0, 0, 0, 0, 0, 0, 3, 3, 3, 3, 3, 3, 3, 3, 3, 0, 0, 3, 3, 0, 3, 0, 3, 0, 1, 1, 1, 0, 3, 3, 3, 3, 3, 3, 3, 3, 3, 3, 3, 3, 3, 0, 3, 3, 1, 3, 0, 3, 3, 3, 0, 3, 3, 3, 3, 3, 3, 0, 0, 3, 3, 3, 0, 3, 3, 3, 3, 3, 3, 0, 3]]
def fcn (a b : Nat) : Nat := (fcl.getD a []).getD b 9
theorem mc_all : ((List.range 316).all fun i => decide ((my i).cls = cn (mc i))) = true := by decide +kernel
theorem mc_ok {i : Nat} (h : i < 316) : (my i).cls = cn (mc i) := of_decide_eq_true (List.all_eq_true.mp mc_all i (List.mem_range.mpr h))
theorem nnpr_all : ((List.range 316).all fun i => decide ((parseMethodDescriptor (my i).desc).map (fun d => d.parameters.length) = some (nnpr i))) = true := by decide +kernel
theorem nnpr_ok {i : Nat} (h : i < 316) : (parseMethodDescriptor (my i).desc).map (fun d => d.parameters.length) = some (nnpr i) := of_decide_eq_true (List.all_eq_true.mp nnpr_all i (List.mem_range.mpr h))
theorem fcn_all : ((List.range 13).all fun a => (List.range (cl_at a).2.2).all fun b => decide (fcode ((cl_at a).2.1 b).2.2.1 = fcn a b)) = true := by decide +kernel
theorem fcn_ok {a b : Nat} (h : a < 13) (hb : b < (cl_at a).2.2) : fcode ((cl_at a).2.1 b).2.2.1 = fcn a b := of_decide_eq_true (List.all_eq_true.mp (List.all_eq_true.mp fcn_all a (List.mem_range.mpr h)) b (List.mem_range.mpr hb))
theorem cn_all : ((List.range 13).all fun a => decide ((cl_at a).1 = cn a)) = true := by decide +kernel
theorem cn_ok {a : Nat} (h : a < 13) : (cl_at a).1 = cn a := of_decide_eq_true (List.all_eq_true.mp cn_all a (List.mem_range.mpr h))
theorem cp_all : ((List.range 16).all fun c => Nat.beq c 14 || (decide (cn c ≠ "java/lang/invoke/MethodHandle") && decide (cn c ≠ "java/lang/invoke/VarHandle") && plainName (cn c))) = true := by decide +kernel
theorem mc_lt_all : ((List.range 316).all fun i => Nat.blt (mc i) 16) = true := by decide +kernel
end
section
/-! An instruction's bytes, and that they decode to it. -/
abbrev bl (cd : ByteArray) : List Nat := cd.data.toList.map UInt8.toNat
abbrev sg (b n : Nat) : Int := Jvm.ClassFile.Reader.signed b n
abbrev dU1 : Jvm.ClassFile.Decoder Nat := Jvm.ClassFile.Reader.u1
abbrev dU2 : Jvm.ClassFile.Decoder Nat := Jvm.ClassFile.Reader.u2
theorem u1_at {cd : ByteArray} {p n : Nat} (h : (bl cd)[p]? = some n) : dU1 cd p = .ok (n, p + 1) := by
  rw [List.getElem?_map] at h
  cases hl : cd.data.toList[p]? with
  | none => rw [hl] at h; cases h
  | some b =>
    rw [hl] at h
    have hn : b.toNat = n := Option.some.inj h
    obtain ⟨hp, hb⟩ := List.getElem?_eq_some_iff.mp hl
    have hp2 : p < cd.size := hp
    show (if h : p < cd.size then ((do set (p + 1); pure cd[p].toNat) : Jvm.ClassFile.Decoder Nat) else throw (HasTruncated.truncated p)) cd p = _
    rw [dif_pos hp2]
    have hq : cd[p].toNat = n := by
      rw [← hn, ← hb]
      rfl
    rw [hq]
    rfl
theorem u2_at {cd : ByteArray} {p a b : Nat} (h : (bl cd)[p]? = some a) (g : (bl cd)[p + 1]? = some b) : dU2 cd p = .ok (a * 256 + b, p + 2) := by
  show Except.bind (dU1 cd p) (fun x => Except.bind (dU1 cd x.2) (fun y => Except.ok (x.1 * 256 + y.1, y.2))) = _
  rw [u1_at h]
  show Except.bind (dU1 cd (p + 1)) (fun y => Except.ok (a * 256 + y.1, y.2)) = _
  rw [u1_at g]
  rfl
abbrev dS1 : Jvm.ClassFile.Decoder Int := Jvm.ClassFile.Reader.s1
abbrev dS2 : Jvm.ClassFile.Decoder Int := Jvm.ClassFile.Reader.s2
theorem s1_at {cd : ByteArray} {p n : Nat} (h : (bl cd)[p]? = some n) : dS1 cd p = .ok (sg 8 n, p + 1) := by
  show Except.bind (dU1 cd p) (fun x => Except.ok (sg 8 x.1, x.2)) = _
  rw [u1_at h]
  rfl
theorem s2_at {cd : ByteArray} {p a b : Nat} (h : (bl cd)[p]? = some a) (g : (bl cd)[p + 1]? = some b) : dS2 cd p = .ok (sg 16 (a * 256 + b), p + 2) := by
  show Except.bind (dU2 cd p) (fun x => Except.ok (sg 16 x.1, x.2)) = _
  rw [u2_at h g]
  rfl
theorem dec_at {cd : ByteArray} {p k : Nat} {q : Instr} (h : (Jvm.ClassFile.Decoder.instr p).runAt cd p = .ok (q, p + k)) : decode cd p = .ok (q, k) := by
  unfold decode
  rw [h]
  show Except.ok (q, p + k - p) = _
  rw [Nat.add_sub_cancel_left]
theorem dc_iaload {cd : ByteArray} {p : Nat} (h : (bl cd)[p]? = some 46) : decode cd p = .ok (.iaload, 1) := by
  refine dec_at ?_
  show Except.bind (dU1 cd p) _ = _
  rw [u1_at h]
  rfl
theorem dc_laload {cd : ByteArray} {p : Nat} (h : (bl cd)[p]? = some 47) : decode cd p = .ok (.laload, 1) := by
  refine dec_at ?_
  show Except.bind (dU1 cd p) _ = _
  rw [u1_at h]
  rfl
theorem dc_baload {cd : ByteArray} {p : Nat} (h : (bl cd)[p]? = some 51) : decode cd p = .ok (.baload, 1) := by
  refine dec_at ?_
  show Except.bind (dU1 cd p) _ = _
  rw [u1_at h]
  rfl
theorem dc_iastore {cd : ByteArray} {p : Nat} (h : (bl cd)[p]? = some 79) : decode cd p = .ok (.iastore, 1) := by
  refine dec_at ?_
  show Except.bind (dU1 cd p) _ = _
  rw [u1_at h]
  rfl
theorem dc_lastore {cd : ByteArray} {p : Nat} (h : (bl cd)[p]? = some 80) : decode cd p = .ok (.lastore, 1) := by
  refine dec_at ?_
  show Except.bind (dU1 cd p) _ = _
  rw [u1_at h]
  rfl
theorem dc_bastore {cd : ByteArray} {p : Nat} (h : (bl cd)[p]? = some 84) : decode cd p = .ok (.bastore, 1) := by
  refine dec_at ?_
  show Except.bind (dU1 cd p) _ = _
  rw [u1_at h]
  rfl
theorem dc_pop {cd : ByteArray} {p : Nat} (h : (bl cd)[p]? = some 87) : decode cd p = .ok (.pop, 1) := by
  refine dec_at ?_
  show Except.bind (dU1 cd p) _ = _
  rw [u1_at h]
  rfl
theorem dc_pop2 {cd : ByteArray} {p : Nat} (h : (bl cd)[p]? = some 88) : decode cd p = .ok (.pop2, 1) := by
  refine dec_at ?_
  show Except.bind (dU1 cd p) _ = _
  rw [u1_at h]
  rfl
theorem dc_dup {cd : ByteArray} {p : Nat} (h : (bl cd)[p]? = some 89) : decode cd p = .ok (.dup, 1) := by
  refine dec_at ?_
  show Except.bind (dU1 cd p) _ = _
  rw [u1_at h]
  rfl
theorem dc_dup2 {cd : ByteArray} {p : Nat} (h : (bl cd)[p]? = some 92) : decode cd p = .ok (.dup2, 1) := by
  refine dec_at ?_
  show Except.bind (dU1 cd p) _ = _
  rw [u1_at h]
  rfl
theorem dc_iadd {cd : ByteArray} {p : Nat} (h : (bl cd)[p]? = some 96) : decode cd p = .ok (.iadd, 1) := by
  refine dec_at ?_
  show Except.bind (dU1 cd p) _ = _
  rw [u1_at h]
  rfl
theorem dc_ladd {cd : ByteArray} {p : Nat} (h : (bl cd)[p]? = some 97) : decode cd p = .ok (.ladd, 1) := by
  refine dec_at ?_
  show Except.bind (dU1 cd p) _ = _
  rw [u1_at h]
  rfl
theorem dc_isub {cd : ByteArray} {p : Nat} (h : (bl cd)[p]? = some 100) : decode cd p = .ok (.isub, 1) := by
  refine dec_at ?_
  show Except.bind (dU1 cd p) _ = _
  rw [u1_at h]
  rfl
theorem dc_lsub {cd : ByteArray} {p : Nat} (h : (bl cd)[p]? = some 101) : decode cd p = .ok (.lsub, 1) := by
  refine dec_at ?_
  show Except.bind (dU1 cd p) _ = _
  rw [u1_at h]
  rfl
theorem dc_imul {cd : ByteArray} {p : Nat} (h : (bl cd)[p]? = some 104) : decode cd p = .ok (.imul, 1) := by
  refine dec_at ?_
  show Except.bind (dU1 cd p) _ = _
  rw [u1_at h]
  rfl
theorem dc_lmul {cd : ByteArray} {p : Nat} (h : (bl cd)[p]? = some 105) : decode cd p = .ok (.lmul, 1) := by
  refine dec_at ?_
  show Except.bind (dU1 cd p) _ = _
  rw [u1_at h]
  rfl
theorem dc_idiv {cd : ByteArray} {p : Nat} (h : (bl cd)[p]? = some 108) : decode cd p = .ok (.idiv, 1) := by
  refine dec_at ?_
  show Except.bind (dU1 cd p) _ = _
  rw [u1_at h]
  rfl
theorem dc_ldiv {cd : ByteArray} {p : Nat} (h : (bl cd)[p]? = some 109) : decode cd p = .ok (.ldiv, 1) := by
  refine dec_at ?_
  show Except.bind (dU1 cd p) _ = _
  rw [u1_at h]
  rfl
theorem dc_irem {cd : ByteArray} {p : Nat} (h : (bl cd)[p]? = some 112) : decode cd p = .ok (.irem, 1) := by
  refine dec_at ?_
  show Except.bind (dU1 cd p) _ = _
  rw [u1_at h]
  rfl
theorem dc_lrem {cd : ByteArray} {p : Nat} (h : (bl cd)[p]? = some 113) : decode cd p = .ok (.lrem, 1) := by
  refine dec_at ?_
  show Except.bind (dU1 cd p) _ = _
  rw [u1_at h]
  rfl
theorem dc_ineg {cd : ByteArray} {p : Nat} (h : (bl cd)[p]? = some 116) : decode cd p = .ok (.ineg, 1) := by
  refine dec_at ?_
  show Except.bind (dU1 cd p) _ = _
  rw [u1_at h]
  rfl
theorem dc_lneg {cd : ByteArray} {p : Nat} (h : (bl cd)[p]? = some 117) : decode cd p = .ok (.lneg, 1) := by
  refine dec_at ?_
  show Except.bind (dU1 cd p) _ = _
  rw [u1_at h]
  rfl
theorem dc_ishl {cd : ByteArray} {p : Nat} (h : (bl cd)[p]? = some 120) : decode cd p = .ok (.ishl, 1) := by
  refine dec_at ?_
  show Except.bind (dU1 cd p) _ = _
  rw [u1_at h]
  rfl
theorem dc_lshl {cd : ByteArray} {p : Nat} (h : (bl cd)[p]? = some 121) : decode cd p = .ok (.lshl, 1) := by
  refine dec_at ?_
  show Except.bind (dU1 cd p) _ = _
  rw [u1_at h]
  rfl
theorem dc_ishr {cd : ByteArray} {p : Nat} (h : (bl cd)[p]? = some 122) : decode cd p = .ok (.ishr, 1) := by
  refine dec_at ?_
  show Except.bind (dU1 cd p) _ = _
  rw [u1_at h]
  rfl
theorem dc_lshr {cd : ByteArray} {p : Nat} (h : (bl cd)[p]? = some 123) : decode cd p = .ok (.lshr, 1) := by
  refine dec_at ?_
  show Except.bind (dU1 cd p) _ = _
  rw [u1_at h]
  rfl
theorem dc_iushr {cd : ByteArray} {p : Nat} (h : (bl cd)[p]? = some 124) : decode cd p = .ok (.iushr, 1) := by
  refine dec_at ?_
  show Except.bind (dU1 cd p) _ = _
  rw [u1_at h]
  rfl
theorem dc_lushr {cd : ByteArray} {p : Nat} (h : (bl cd)[p]? = some 125) : decode cd p = .ok (.lushr, 1) := by
  refine dec_at ?_
  show Except.bind (dU1 cd p) _ = _
  rw [u1_at h]
  rfl
theorem dc_iand {cd : ByteArray} {p : Nat} (h : (bl cd)[p]? = some 126) : decode cd p = .ok (.iand, 1) := by
  refine dec_at ?_
  show Except.bind (dU1 cd p) _ = _
  rw [u1_at h]
  rfl
theorem dc_land {cd : ByteArray} {p : Nat} (h : (bl cd)[p]? = some 127) : decode cd p = .ok (.land, 1) := by
  refine dec_at ?_
  show Except.bind (dU1 cd p) _ = _
  rw [u1_at h]
  rfl
theorem dc_ior {cd : ByteArray} {p : Nat} (h : (bl cd)[p]? = some 128) : decode cd p = .ok (.ior, 1) := by
  refine dec_at ?_
  show Except.bind (dU1 cd p) _ = _
  rw [u1_at h]
  rfl
theorem dc_lor {cd : ByteArray} {p : Nat} (h : (bl cd)[p]? = some 129) : decode cd p = .ok (.lor, 1) := by
  refine dec_at ?_
  show Except.bind (dU1 cd p) _ = _
  rw [u1_at h]
  rfl
theorem dc_ixor {cd : ByteArray} {p : Nat} (h : (bl cd)[p]? = some 130) : decode cd p = .ok (.ixor, 1) := by
  refine dec_at ?_
  show Except.bind (dU1 cd p) _ = _
  rw [u1_at h]
  rfl
theorem dc_lxor {cd : ByteArray} {p : Nat} (h : (bl cd)[p]? = some 131) : decode cd p = .ok (.lxor, 1) := by
  refine dec_at ?_
  show Except.bind (dU1 cd p) _ = _
  rw [u1_at h]
  rfl
theorem dc_i2l {cd : ByteArray} {p : Nat} (h : (bl cd)[p]? = some 133) : decode cd p = .ok (.i2l, 1) := by
  refine dec_at ?_
  show Except.bind (dU1 cd p) _ = _
  rw [u1_at h]
  rfl
theorem dc_l2i {cd : ByteArray} {p : Nat} (h : (bl cd)[p]? = some 136) : decode cd p = .ok (.l2i, 1) := by
  refine dec_at ?_
  show Except.bind (dU1 cd p) _ = _
  rw [u1_at h]
  rfl
theorem dc_i2b {cd : ByteArray} {p : Nat} (h : (bl cd)[p]? = some 145) : decode cd p = .ok (.i2b, 1) := by
  refine dec_at ?_
  show Except.bind (dU1 cd p) _ = _
  rw [u1_at h]
  rfl
theorem dc_lcmp {cd : ByteArray} {p : Nat} (h : (bl cd)[p]? = some 148) : decode cd p = .ok (.lcmp, 1) := by
  refine dec_at ?_
  show Except.bind (dU1 cd p) _ = _
  rw [u1_at h]
  rfl
theorem dc_ireturn {cd : ByteArray} {p : Nat} (h : (bl cd)[p]? = some 172) : decode cd p = .ok (.ireturn, 1) := by
  refine dec_at ?_
  show Except.bind (dU1 cd p) _ = _
  rw [u1_at h]
  rfl
theorem dc_lreturn {cd : ByteArray} {p : Nat} (h : (bl cd)[p]? = some 173) : decode cd p = .ok (.lreturn, 1) := by
  refine dec_at ?_
  show Except.bind (dU1 cd p) _ = _
  rw [u1_at h]
  rfl
theorem dc_return_ {cd : ByteArray} {p : Nat} (h : (bl cd)[p]? = some 177) : decode cd p = .ok (.return_, 1) := by
  refine dec_at ?_
  show Except.bind (dU1 cd p) _ = _
  rw [u1_at h]
  rfl
theorem dc_arraylength {cd : ByteArray} {p : Nat} (h : (bl cd)[p]? = some 190) : decode cd p = .ok (.arraylength, 1) := by
  refine dec_at ?_
  show Except.bind (dU1 cd p) _ = _
  rw [u1_at h]
  rfl
theorem dc_athrow {cd : ByteArray} {p : Nat} (h : (bl cd)[p]? = some 191) : decode cd p = .ok (.athrow, 1) := by
  refine dec_at ?_
  show Except.bind (dU1 cd p) _ = _
  rw [u1_at h]
  rfl
theorem dc_iconst_0 {cd : ByteArray} {p : Nat} (h : (bl cd)[p]? = some 2) : decode cd p = .ok (.iconst (-1), 1) := by
  refine dec_at ?_
  show Except.bind (dU1 cd p) _ = _
  rw [u1_at h]
  rfl
theorem dc_iconst_1 {cd : ByteArray} {p : Nat} (h : (bl cd)[p]? = some 3) : decode cd p = .ok (.iconst (0), 1) := by
  refine dec_at ?_
  show Except.bind (dU1 cd p) _ = _
  rw [u1_at h]
  rfl
theorem dc_iconst_2 {cd : ByteArray} {p : Nat} (h : (bl cd)[p]? = some 4) : decode cd p = .ok (.iconst (1), 1) := by
  refine dec_at ?_
  show Except.bind (dU1 cd p) _ = _
  rw [u1_at h]
  rfl
theorem dc_iconst_3 {cd : ByteArray} {p : Nat} (h : (bl cd)[p]? = some 5) : decode cd p = .ok (.iconst (2), 1) := by
  refine dec_at ?_
  show Except.bind (dU1 cd p) _ = _
  rw [u1_at h]
  rfl
theorem dc_iconst_4 {cd : ByteArray} {p : Nat} (h : (bl cd)[p]? = some 6) : decode cd p = .ok (.iconst (3), 1) := by
  refine dec_at ?_
  show Except.bind (dU1 cd p) _ = _
  rw [u1_at h]
  rfl
theorem dc_iconst_5 {cd : ByteArray} {p : Nat} (h : (bl cd)[p]? = some 7) : decode cd p = .ok (.iconst (4), 1) := by
  refine dec_at ?_
  show Except.bind (dU1 cd p) _ = _
  rw [u1_at h]
  rfl
theorem dc_iconst_6 {cd : ByteArray} {p : Nat} (h : (bl cd)[p]? = some 8) : decode cd p = .ok (.iconst (5), 1) := by
  refine dec_at ?_
  show Except.bind (dU1 cd p) _ = _
  rw [u1_at h]
  rfl
theorem dc_lconst_0 {cd : ByteArray} {p : Nat} (h : (bl cd)[p]? = some 9) : decode cd p = .ok (.lconst 0, 1) := by
  refine dec_at ?_
  show Except.bind (dU1 cd p) _ = _
  rw [u1_at h]
  rfl
theorem dc_lconst_1 {cd : ByteArray} {p : Nat} (h : (bl cd)[p]? = some 10) : decode cd p = .ok (.lconst 1, 1) := by
  refine dec_at ?_
  show Except.bind (dU1 cd p) _ = _
  rw [u1_at h]
  rfl
theorem dc_iload_n_0 {cd : ByteArray} {p : Nat} (h : (bl cd)[p]? = some 26) : decode cd p = .ok (.iload_n 0, 1) := by
  refine dec_at ?_
  show Except.bind (dU1 cd p) _ = _
  rw [u1_at h]
  rfl
theorem dc_iload_n_1 {cd : ByteArray} {p : Nat} (h : (bl cd)[p]? = some 27) : decode cd p = .ok (.iload_n 1, 1) := by
  refine dec_at ?_
  show Except.bind (dU1 cd p) _ = _
  rw [u1_at h]
  rfl
theorem dc_iload_n_2 {cd : ByteArray} {p : Nat} (h : (bl cd)[p]? = some 28) : decode cd p = .ok (.iload_n 2, 1) := by
  refine dec_at ?_
  show Except.bind (dU1 cd p) _ = _
  rw [u1_at h]
  rfl
theorem dc_iload_n_3 {cd : ByteArray} {p : Nat} (h : (bl cd)[p]? = some 29) : decode cd p = .ok (.iload_n 3, 1) := by
  refine dec_at ?_
  show Except.bind (dU1 cd p) _ = _
  rw [u1_at h]
  rfl
theorem dc_lload_n_0 {cd : ByteArray} {p : Nat} (h : (bl cd)[p]? = some 30) : decode cd p = .ok (.lload_n 0, 1) := by
  refine dec_at ?_
  show Except.bind (dU1 cd p) _ = _
  rw [u1_at h]
  rfl
theorem dc_lload_n_1 {cd : ByteArray} {p : Nat} (h : (bl cd)[p]? = some 31) : decode cd p = .ok (.lload_n 1, 1) := by
  refine dec_at ?_
  show Except.bind (dU1 cd p) _ = _
  rw [u1_at h]
  rfl
theorem dc_lload_n_2 {cd : ByteArray} {p : Nat} (h : (bl cd)[p]? = some 32) : decode cd p = .ok (.lload_n 2, 1) := by
  refine dec_at ?_
  show Except.bind (dU1 cd p) _ = _
  rw [u1_at h]
  rfl
theorem dc_lload_n_3 {cd : ByteArray} {p : Nat} (h : (bl cd)[p]? = some 33) : decode cd p = .ok (.lload_n 3, 1) := by
  refine dec_at ?_
  show Except.bind (dU1 cd p) _ = _
  rw [u1_at h]
  rfl
theorem dc_aload_n_0 {cd : ByteArray} {p : Nat} (h : (bl cd)[p]? = some 42) : decode cd p = .ok (.aload_n 0, 1) := by
  refine dec_at ?_
  show Except.bind (dU1 cd p) _ = _
  rw [u1_at h]
  rfl
theorem dc_aload_n_1 {cd : ByteArray} {p : Nat} (h : (bl cd)[p]? = some 43) : decode cd p = .ok (.aload_n 1, 1) := by
  refine dec_at ?_
  show Except.bind (dU1 cd p) _ = _
  rw [u1_at h]
  rfl
theorem dc_aload_n_2 {cd : ByteArray} {p : Nat} (h : (bl cd)[p]? = some 44) : decode cd p = .ok (.aload_n 2, 1) := by
  refine dec_at ?_
  show Except.bind (dU1 cd p) _ = _
  rw [u1_at h]
  rfl
theorem dc_aload_n_3 {cd : ByteArray} {p : Nat} (h : (bl cd)[p]? = some 45) : decode cd p = .ok (.aload_n 3, 1) := by
  refine dec_at ?_
  show Except.bind (dU1 cd p) _ = _
  rw [u1_at h]
  rfl
theorem dc_istore_n_0 {cd : ByteArray} {p : Nat} (h : (bl cd)[p]? = some 59) : decode cd p = .ok (.istore_n 0, 1) := by
  refine dec_at ?_
  show Except.bind (dU1 cd p) _ = _
  rw [u1_at h]
  rfl
theorem dc_istore_n_1 {cd : ByteArray} {p : Nat} (h : (bl cd)[p]? = some 60) : decode cd p = .ok (.istore_n 1, 1) := by
  refine dec_at ?_
  show Except.bind (dU1 cd p) _ = _
  rw [u1_at h]
  rfl
theorem dc_istore_n_2 {cd : ByteArray} {p : Nat} (h : (bl cd)[p]? = some 61) : decode cd p = .ok (.istore_n 2, 1) := by
  refine dec_at ?_
  show Except.bind (dU1 cd p) _ = _
  rw [u1_at h]
  rfl
theorem dc_istore_n_3 {cd : ByteArray} {p : Nat} (h : (bl cd)[p]? = some 62) : decode cd p = .ok (.istore_n 3, 1) := by
  refine dec_at ?_
  show Except.bind (dU1 cd p) _ = _
  rw [u1_at h]
  rfl
theorem dc_lstore_n_0 {cd : ByteArray} {p : Nat} (h : (bl cd)[p]? = some 63) : decode cd p = .ok (.lstore_n 0, 1) := by
  refine dec_at ?_
  show Except.bind (dU1 cd p) _ = _
  rw [u1_at h]
  rfl
theorem dc_lstore_n_1 {cd : ByteArray} {p : Nat} (h : (bl cd)[p]? = some 64) : decode cd p = .ok (.lstore_n 1, 1) := by
  refine dec_at ?_
  show Except.bind (dU1 cd p) _ = _
  rw [u1_at h]
  rfl
theorem dc_lstore_n_2 {cd : ByteArray} {p : Nat} (h : (bl cd)[p]? = some 65) : decode cd p = .ok (.lstore_n 2, 1) := by
  refine dec_at ?_
  show Except.bind (dU1 cd p) _ = _
  rw [u1_at h]
  rfl
theorem dc_lstore_n_3 {cd : ByteArray} {p : Nat} (h : (bl cd)[p]? = some 66) : decode cd p = .ok (.lstore_n 3, 1) := by
  refine dec_at ?_
  show Except.bind (dU1 cd p) _ = _
  rw [u1_at h]
  rfl
theorem dc_astore_n_0 {cd : ByteArray} {p : Nat} (h : (bl cd)[p]? = some 75) : decode cd p = .ok (.astore_n 0, 1) := by
  refine dec_at ?_
  show Except.bind (dU1 cd p) _ = _
  rw [u1_at h]
  rfl
theorem dc_astore_n_1 {cd : ByteArray} {p : Nat} (h : (bl cd)[p]? = some 76) : decode cd p = .ok (.astore_n 1, 1) := by
  refine dec_at ?_
  show Except.bind (dU1 cd p) _ = _
  rw [u1_at h]
  rfl
theorem dc_astore_n_2 {cd : ByteArray} {p : Nat} (h : (bl cd)[p]? = some 77) : decode cd p = .ok (.astore_n 2, 1) := by
  refine dec_at ?_
  show Except.bind (dU1 cd p) _ = _
  rw [u1_at h]
  rfl
theorem dc_astore_n_3 {cd : ByteArray} {p : Nat} (h : (bl cd)[p]? = some 78) : decode cd p = .ok (.astore_n 3, 1) := by
  refine dec_at ?_
  show Except.bind (dU1 cd p) _ = _
  rw [u1_at h]
  rfl
theorem dc_ldc {cd : ByteArray} {p a : Nat} (h : (bl cd)[p]? = some 18) (h1 : (bl cd)[p + 1]? = some a) : decode cd p = .ok (.ldc a, 2) := by
  refine dec_at ?_
  show Except.bind (dU1 cd p) _ = _
  rw [u1_at h]
  show Except.bind (dU1 cd (p + 1)) _ = _
  rw [u1_at h1]
  rfl
theorem dc_iload {cd : ByteArray} {p a : Nat} (h : (bl cd)[p]? = some 21) (h1 : (bl cd)[p + 1]? = some a) : decode cd p = .ok (.iload a, 2) := by
  refine dec_at ?_
  show Except.bind (dU1 cd p) _ = _
  rw [u1_at h]
  show Except.bind (dU1 cd (p + 1)) _ = _
  rw [u1_at h1]
  rfl
theorem dc_lload {cd : ByteArray} {p a : Nat} (h : (bl cd)[p]? = some 22) (h1 : (bl cd)[p + 1]? = some a) : decode cd p = .ok (.lload a, 2) := by
  refine dec_at ?_
  show Except.bind (dU1 cd p) _ = _
  rw [u1_at h]
  show Except.bind (dU1 cd (p + 1)) _ = _
  rw [u1_at h1]
  rfl
theorem dc_aload {cd : ByteArray} {p a : Nat} (h : (bl cd)[p]? = some 25) (h1 : (bl cd)[p + 1]? = some a) : decode cd p = .ok (.aload a, 2) := by
  refine dec_at ?_
  show Except.bind (dU1 cd p) _ = _
  rw [u1_at h]
  show Except.bind (dU1 cd (p + 1)) _ = _
  rw [u1_at h1]
  rfl
theorem dc_istore {cd : ByteArray} {p a : Nat} (h : (bl cd)[p]? = some 54) (h1 : (bl cd)[p + 1]? = some a) : decode cd p = .ok (.istore a, 2) := by
  refine dec_at ?_
  show Except.bind (dU1 cd p) _ = _
  rw [u1_at h]
  show Except.bind (dU1 cd (p + 1)) _ = _
  rw [u1_at h1]
  rfl
theorem dc_lstore {cd : ByteArray} {p a : Nat} (h : (bl cd)[p]? = some 55) (h1 : (bl cd)[p + 1]? = some a) : decode cd p = .ok (.lstore a, 2) := by
  refine dec_at ?_
  show Except.bind (dU1 cd p) _ = _
  rw [u1_at h]
  show Except.bind (dU1 cd (p + 1)) _ = _
  rw [u1_at h1]
  rfl
theorem dc_astore {cd : ByteArray} {p a : Nat} (h : (bl cd)[p]? = some 58) (h1 : (bl cd)[p + 1]? = some a) : decode cd p = .ok (.astore a, 2) := by
  refine dec_at ?_
  show Except.bind (dU1 cd p) _ = _
  rw [u1_at h]
  show Except.bind (dU1 cd (p + 1)) _ = _
  rw [u1_at h1]
  rfl
theorem dc_bipush {cd : ByteArray} {p a : Nat} (h : (bl cd)[p]? = some 16) (h1 : (bl cd)[p + 1]? = some a) : decode cd p = .ok (.bipush (sg 8 a), 2) := by
  refine dec_at ?_
  show Except.bind (dU1 cd p) _ = _
  rw [u1_at h]
  show Except.bind (dS1 cd (p + 1)) _ = _
  rw [s1_at h1]
  rfl
theorem dc_newarray_boolean {cd : ByteArray} {p  : Nat} (h : (bl cd)[p]? = some 188) (h1 : (bl cd)[p + 1]? = some 4) : decode cd p = .ok (.newarray .boolean, 2) := by
  refine dec_at ?_
  show Except.bind (dU1 cd p) _ = _
  rw [u1_at h]
  show Except.bind (dU1 cd (p + 1)) _ = _
  rw [u1_at h1]
  rfl
theorem dc_newarray_byte {cd : ByteArray} {p  : Nat} (h : (bl cd)[p]? = some 188) (h1 : (bl cd)[p + 1]? = some 8) : decode cd p = .ok (.newarray .byte, 2) := by
  refine dec_at ?_
  show Except.bind (dU1 cd p) _ = _
  rw [u1_at h]
  show Except.bind (dU1 cd (p + 1)) _ = _
  rw [u1_at h1]
  rfl
theorem dc_newarray_int {cd : ByteArray} {p  : Nat} (h : (bl cd)[p]? = some 188) (h1 : (bl cd)[p + 1]? = some 10) : decode cd p = .ok (.newarray .int, 2) := by
  refine dec_at ?_
  show Except.bind (dU1 cd p) _ = _
  rw [u1_at h]
  show Except.bind (dU1 cd (p + 1)) _ = _
  rw [u1_at h1]
  rfl
theorem dc_newarray_long {cd : ByteArray} {p  : Nat} (h : (bl cd)[p]? = some 188) (h1 : (bl cd)[p + 1]? = some 11) : decode cd p = .ok (.newarray .long, 2) := by
  refine dec_at ?_
  show Except.bind (dU1 cd p) _ = _
  rw [u1_at h]
  show Except.bind (dU1 cd (p + 1)) _ = _
  rw [u1_at h1]
  rfl
theorem dc_ldc_w {cd : ByteArray} {p a b : Nat} (h : (bl cd)[p]? = some 19) (h1 : (bl cd)[p + 1]? = some a) (h2 : (bl cd)[p + 2]? = some b) : decode cd p = .ok (.ldc_w (a * 256 + b), 3) := by
  refine dec_at ?_
  show Except.bind (dU1 cd p) _ = _
  rw [u1_at h]
  show Except.bind (dU2 cd (p + 1)) _ = _
  rw [u2_at h1 h2]
  rfl
theorem dc_ldc2_w {cd : ByteArray} {p a b : Nat} (h : (bl cd)[p]? = some 20) (h1 : (bl cd)[p + 1]? = some a) (h2 : (bl cd)[p + 2]? = some b) : decode cd p = .ok (.ldc2_w (a * 256 + b), 3) := by
  refine dec_at ?_
  show Except.bind (dU1 cd p) _ = _
  rw [u1_at h]
  show Except.bind (dU2 cd (p + 1)) _ = _
  rw [u2_at h1 h2]
  rfl
theorem dc_getstatic {cd : ByteArray} {p a b : Nat} (h : (bl cd)[p]? = some 178) (h1 : (bl cd)[p + 1]? = some a) (h2 : (bl cd)[p + 2]? = some b) : decode cd p = .ok (.getstatic (a * 256 + b), 3) := by
  refine dec_at ?_
  show Except.bind (dU1 cd p) _ = _
  rw [u1_at h]
  show Except.bind (dU2 cd (p + 1)) _ = _
  rw [u2_at h1 h2]
  rfl
theorem dc_getfield {cd : ByteArray} {p a b : Nat} (h : (bl cd)[p]? = some 180) (h1 : (bl cd)[p + 1]? = some a) (h2 : (bl cd)[p + 2]? = some b) : decode cd p = .ok (.getfield (a * 256 + b), 3) := by
  refine dec_at ?_
  show Except.bind (dU1 cd p) _ = _
  rw [u1_at h]
  show Except.bind (dU2 cd (p + 1)) _ = _
  rw [u2_at h1 h2]
  rfl
theorem dc_putfield {cd : ByteArray} {p a b : Nat} (h : (bl cd)[p]? = some 181) (h1 : (bl cd)[p + 1]? = some a) (h2 : (bl cd)[p + 2]? = some b) : decode cd p = .ok (.putfield (a * 256 + b), 3) := by
  refine dec_at ?_
  show Except.bind (dU1 cd p) _ = _
  rw [u1_at h]
  show Except.bind (dU2 cd (p + 1)) _ = _
  rw [u2_at h1 h2]
  rfl
theorem dc_invokevirtual {cd : ByteArray} {p a b : Nat} (h : (bl cd)[p]? = some 182) (h1 : (bl cd)[p + 1]? = some a) (h2 : (bl cd)[p + 2]? = some b) : decode cd p = .ok (.invokevirtual (a * 256 + b), 3) := by
  refine dec_at ?_
  show Except.bind (dU1 cd p) _ = _
  rw [u1_at h]
  show Except.bind (dU2 cd (p + 1)) _ = _
  rw [u2_at h1 h2]
  rfl
theorem dc_invokespecial {cd : ByteArray} {p a b : Nat} (h : (bl cd)[p]? = some 183) (h1 : (bl cd)[p + 1]? = some a) (h2 : (bl cd)[p + 2]? = some b) : decode cd p = .ok (.invokespecial (a * 256 + b), 3) := by
  refine dec_at ?_
  show Except.bind (dU1 cd p) _ = _
  rw [u1_at h]
  show Except.bind (dU2 cd (p + 1)) _ = _
  rw [u2_at h1 h2]
  rfl
theorem dc_invokestatic {cd : ByteArray} {p a b : Nat} (h : (bl cd)[p]? = some 184) (h1 : (bl cd)[p + 1]? = some a) (h2 : (bl cd)[p + 2]? = some b) : decode cd p = .ok (.invokestatic (a * 256 + b), 3) := by
  refine dec_at ?_
  show Except.bind (dU1 cd p) _ = _
  rw [u1_at h]
  show Except.bind (dU2 cd (p + 1)) _ = _
  rw [u2_at h1 h2]
  rfl
theorem dc_new {cd : ByteArray} {p a b : Nat} (h : (bl cd)[p]? = some 187) (h1 : (bl cd)[p + 1]? = some a) (h2 : (bl cd)[p + 2]? = some b) : decode cd p = .ok (.new (a * 256 + b), 3) := by
  refine dec_at ?_
  show Except.bind (dU1 cd p) _ = _
  rw [u1_at h]
  show Except.bind (dU2 cd (p + 1)) _ = _
  rw [u2_at h1 h2]
  rfl
theorem dc_sipush {cd : ByteArray} {p a b : Nat} (h : (bl cd)[p]? = some 17) (h1 : (bl cd)[p + 1]? = some a) (h2 : (bl cd)[p + 2]? = some b) : decode cd p = .ok (.sipush (sg 16 (a * 256 + b)), 3) := by
  refine dec_at ?_
  show Except.bind (dU1 cd p) _ = _
  rw [u1_at h]
  show Except.bind (dS2 cd (p + 1)) _ = _
  rw [s2_at h1 h2]
  rfl
theorem dc_goto {cd : ByteArray} {p a b : Nat} (h : (bl cd)[p]? = some 167) (h1 : (bl cd)[p + 1]? = some a) (h2 : (bl cd)[p + 2]? = some b) : decode cd p = .ok (.goto (sg 16 (a * 256 + b)), 3) := by
  refine dec_at ?_
  show Except.bind (dU1 cd p) _ = _
  rw [u1_at h]
  show Except.bind (dS2 cd (p + 1)) _ = _
  rw [s2_at h1 h2]
  rfl
theorem dc_if_eq {cd : ByteArray} {p a b : Nat} (h : (bl cd)[p]? = some 153) (h1 : (bl cd)[p + 1]? = some a) (h2 : (bl cd)[p + 2]? = some b) : decode cd p = .ok (.ifCond .eq (sg 16 (a * 256 + b)), 3) := by
  refine dec_at ?_
  show Except.bind (dU1 cd p) _ = _
  rw [u1_at h]
  show Except.bind (dS2 cd (p + 1)) _ = _
  rw [s2_at h1 h2]
  rfl
theorem dc_icmp_eq {cd : ByteArray} {p a b : Nat} (h : (bl cd)[p]? = some 159) (h1 : (bl cd)[p + 1]? = some a) (h2 : (bl cd)[p + 2]? = some b) : decode cd p = .ok (.if_icmp .eq (sg 16 (a * 256 + b)), 3) := by
  refine dec_at ?_
  show Except.bind (dU1 cd p) _ = _
  rw [u1_at h]
  show Except.bind (dS2 cd (p + 1)) _ = _
  rw [s2_at h1 h2]
  rfl
theorem dc_if_ne {cd : ByteArray} {p a b : Nat} (h : (bl cd)[p]? = some 154) (h1 : (bl cd)[p + 1]? = some a) (h2 : (bl cd)[p + 2]? = some b) : decode cd p = .ok (.ifCond .ne (sg 16 (a * 256 + b)), 3) := by
  refine dec_at ?_
  show Except.bind (dU1 cd p) _ = _
  rw [u1_at h]
  show Except.bind (dS2 cd (p + 1)) _ = _
  rw [s2_at h1 h2]
  rfl
theorem dc_icmp_ne {cd : ByteArray} {p a b : Nat} (h : (bl cd)[p]? = some 160) (h1 : (bl cd)[p + 1]? = some a) (h2 : (bl cd)[p + 2]? = some b) : decode cd p = .ok (.if_icmp .ne (sg 16 (a * 256 + b)), 3) := by
  refine dec_at ?_
  show Except.bind (dU1 cd p) _ = _
  rw [u1_at h]
  show Except.bind (dS2 cd (p + 1)) _ = _
  rw [s2_at h1 h2]
  rfl
theorem dc_if_lt {cd : ByteArray} {p a b : Nat} (h : (bl cd)[p]? = some 155) (h1 : (bl cd)[p + 1]? = some a) (h2 : (bl cd)[p + 2]? = some b) : decode cd p = .ok (.ifCond .lt (sg 16 (a * 256 + b)), 3) := by
  refine dec_at ?_
  show Except.bind (dU1 cd p) _ = _
  rw [u1_at h]
  show Except.bind (dS2 cd (p + 1)) _ = _
  rw [s2_at h1 h2]
  rfl
theorem dc_icmp_lt {cd : ByteArray} {p a b : Nat} (h : (bl cd)[p]? = some 161) (h1 : (bl cd)[p + 1]? = some a) (h2 : (bl cd)[p + 2]? = some b) : decode cd p = .ok (.if_icmp .lt (sg 16 (a * 256 + b)), 3) := by
  refine dec_at ?_
  show Except.bind (dU1 cd p) _ = _
  rw [u1_at h]
  show Except.bind (dS2 cd (p + 1)) _ = _
  rw [s2_at h1 h2]
  rfl
theorem dc_if_ge {cd : ByteArray} {p a b : Nat} (h : (bl cd)[p]? = some 156) (h1 : (bl cd)[p + 1]? = some a) (h2 : (bl cd)[p + 2]? = some b) : decode cd p = .ok (.ifCond .ge (sg 16 (a * 256 + b)), 3) := by
  refine dec_at ?_
  show Except.bind (dU1 cd p) _ = _
  rw [u1_at h]
  show Except.bind (dS2 cd (p + 1)) _ = _
  rw [s2_at h1 h2]
  rfl
theorem dc_icmp_ge {cd : ByteArray} {p a b : Nat} (h : (bl cd)[p]? = some 162) (h1 : (bl cd)[p + 1]? = some a) (h2 : (bl cd)[p + 2]? = some b) : decode cd p = .ok (.if_icmp .ge (sg 16 (a * 256 + b)), 3) := by
  refine dec_at ?_
  show Except.bind (dU1 cd p) _ = _
  rw [u1_at h]
  show Except.bind (dS2 cd (p + 1)) _ = _
  rw [s2_at h1 h2]
  rfl
theorem dc_if_gt {cd : ByteArray} {p a b : Nat} (h : (bl cd)[p]? = some 157) (h1 : (bl cd)[p + 1]? = some a) (h2 : (bl cd)[p + 2]? = some b) : decode cd p = .ok (.ifCond .gt (sg 16 (a * 256 + b)), 3) := by
  refine dec_at ?_
  show Except.bind (dU1 cd p) _ = _
  rw [u1_at h]
  show Except.bind (dS2 cd (p + 1)) _ = _
  rw [s2_at h1 h2]
  rfl
theorem dc_icmp_gt {cd : ByteArray} {p a b : Nat} (h : (bl cd)[p]? = some 163) (h1 : (bl cd)[p + 1]? = some a) (h2 : (bl cd)[p + 2]? = some b) : decode cd p = .ok (.if_icmp .gt (sg 16 (a * 256 + b)), 3) := by
  refine dec_at ?_
  show Except.bind (dU1 cd p) _ = _
  rw [u1_at h]
  show Except.bind (dS2 cd (p + 1)) _ = _
  rw [s2_at h1 h2]
  rfl
theorem dc_if_le {cd : ByteArray} {p a b : Nat} (h : (bl cd)[p]? = some 158) (h1 : (bl cd)[p + 1]? = some a) (h2 : (bl cd)[p + 2]? = some b) : decode cd p = .ok (.ifCond .le (sg 16 (a * 256 + b)), 3) := by
  refine dec_at ?_
  show Except.bind (dU1 cd p) _ = _
  rw [u1_at h]
  show Except.bind (dS2 cd (p + 1)) _ = _
  rw [s2_at h1 h2]
  rfl
theorem dc_icmp_le {cd : ByteArray} {p a b : Nat} (h : (bl cd)[p]? = some 164) (h1 : (bl cd)[p + 1]? = some a) (h2 : (bl cd)[p + 2]? = some b) : decode cd p = .ok (.if_icmp .le (sg 16 (a * 256 + b)), 3) := by
  refine dec_at ?_
  show Except.bind (dU1 cd p) _ = _
  rw [u1_at h]
  show Except.bind (dS2 cd (p + 1)) _ = _
  rw [s2_at h1 h2]
  rfl
theorem dc_iinc {cd : ByteArray} {p a b : Nat} (h : (bl cd)[p]? = some 132) (h1 : (bl cd)[p + 1]? = some a) (h2 : (bl cd)[p + 2]? = some b) : decode cd p = .ok (.iinc a (sg 8 b), 3) := by
  refine dec_at ?_
  show Except.bind (dU1 cd p) _ = _
  rw [u1_at h]
  show Except.bind (dU1 cd (p + 1)) _ = _
  rw [u1_at h1]
  show Except.bind (dS1 cd (p + 1 + 1)) _ = _
  rw [s1_at h2]
  rfl
def w8 (v : Int) : Nat := (v % 256).toNat
def w16 (v : Int) : Nat := (v % 65536).toNat
def e2 (o n : Nat) : List Nat := [o, n / 256, n % 256]
def s2e (o : Nat) (v : Int) : List Nat := if sg 16 (w16 v / 256 * 256 + w16 v % 256) = v then e2 o (w16 v) else []
def cdn : ClassFile.Cond → Nat
  | .eq => 0
  | .ne => 1
  | .lt => 2
  | .ge => 3
  | .gt => 4
  | .le => 5
def ec : Instr → List Nat
  | .iaload => [46]
  | .laload => [47]
  | .baload => [51]
  | .iastore => [79]
  | .lastore => [80]
  | .bastore => [84]
  | .pop => [87]
  | .pop2 => [88]
  | .dup => [89]
  | .dup2 => [92]
  | .iadd => [96]
  | .ladd => [97]
  | .isub => [100]
  | .lsub => [101]
  | .imul => [104]
  | .lmul => [105]
  | .idiv => [108]
  | .ldiv => [109]
  | .irem => [112]
  | .lrem => [113]
  | .ineg => [116]
  | .lneg => [117]
  | .ishl => [120]
  | .lshl => [121]
  | .ishr => [122]
  | .lshr => [123]
  | .iushr => [124]
  | .lushr => [125]
  | .iand => [126]
  | .land => [127]
  | .ior => [128]
  | .lor => [129]
  | .ixor => [130]
  | .lxor => [131]
  | .i2l => [133]
  | .l2i => [136]
  | .i2b => [145]
  | .lcmp => [148]
  | .ireturn => [172]
  | .lreturn => [173]
  | .return_ => [177]
  | .arraylength => [190]
  | .athrow => [191]
  | .iconst n => if n = -1 then [2] else if n = 0 then [3] else if n = 1 then [4] else if n = 2 then [5] else if n = 3 then [6] else if n = 4 then [7] else if n = 5 then [8] else []
  | .lconst n => [9 + n.val]
  | .iload_n n => [26 + n.val]
  | .lload_n n => [30 + n.val]
  | .aload_n n => [42 + n.val]
  | .istore_n n => [59 + n.val]
  | .lstore_n n => [63 + n.val]
  | .astore_n n => [75 + n.val]
  | .ldc n => [18, n]
  | .iload n => [21, n]
  | .lload n => [22, n]
  | .aload n => [25, n]
  | .istore n => [54, n]
  | .lstore n => [55, n]
  | .astore n => [58, n]
  | .bipush v => if sg 8 (w8 v) = v then [16, w8 v] else []
  | .newarray t => (match t with
    | .boolean => [188, 4]
    | .byte => [188, 8]
    | .int => [188, 10]
    | .long => [188, 11]
    | _ => [])
  | .ldc_w n => e2 19 n
  | .ldc2_w n => e2 20 n
  | .getstatic n => e2 178 n
  | .getfield n => e2 180 n
  | .putfield n => e2 181 n
  | .invokevirtual n => e2 182 n
  | .invokespecial n => e2 183 n
  | .invokestatic n => e2 184 n
  | .new n => e2 187 n
  | .sipush v => s2e 17 v
  | .goto v => s2e 167 v
  | .ifCond c v => s2e (153 + cdn c) v
  | .if_icmp c v => s2e (159 + cdn c) v
  | .iinc n v => if sg 8 (w8 v) = v then [132, n, w8 v] else []
  | _ => []
def lnp : List Nat → List Nat → Bool
  | [], _ => true
  | a :: l, b :: m => Nat.beq a b && lnp l m
  | _ :: _, [] => false
theorem lnp_at : ∀ (l s : List Nat), lnp l s = true → ∀ (k x : Nat), l[k]? = some x → s[k]? = some x
  | [], _, _, _, _, h => by simp at h
  | _ :: _, [], h, _, _, _ => by cases h
  | a :: l, b :: m, h, 0, x, hx => by
    have h := ba h
    rw [List.getElem?_cons_zero] at hx ⊢
    rw [← hx, neq h.1]
  | a :: l, b :: m, h, k + 1, x, hx => by
    have h := ba h
    rw [List.getElem?_cons_succ] at hx ⊢
    exact lnp_at l m h.2 k x hx
section NDE
variable {cd : ByteArray} {p : Nat} {s : List Nat}
theorem at_s (hs : s = (bl cd).drop p) {l : List Nat} (h : lnp l s = true) {k x : Nat} (hx : l[k]? = some x) : (bl cd)[p + k]? = some x := by
  have g := lnp_at l s h k x hx
  rw [hs, List.getElem?_drop] at g
  exact g
theorem e2_ok {q : Nat → Instr} {o n : Nat} (hd : ∀ a b : Nat, (bl cd)[p]? = some o → (bl cd)[p + 1]? = some a → (bl cd)[p + 2]? = some b → decode cd p = .ok (q (a * 256 + b), 3)) (hs : s = (bl cd).drop p) (h : lnp (e2 o n) s = true) : decode cd p = .ok (q n, 3) := by
  have g := hd (n / 256) (n % 256) (at_s hs h (k := 0) rfl) (at_s hs h (k := 1) rfl) (at_s hs h (k := 2) rfl)
  rw [show n / 256 * 256 + n % 256 = n by omega] at g
  exact g
theorem s2_ok {q : Int → Instr} {o : Nat} {v : Int} (hd : ∀ a b : Nat, (bl cd)[p]? = some o → (bl cd)[p + 1]? = some a → (bl cd)[p + 2]? = some b → decode cd p = .ok (q (sg 16 (a * 256 + b)), 3)) (hs : s = (bl cd).drop p) (hne : s2e o v ≠ []) (h : lnp (s2e o v) s = true) : decode cd p = .ok (q v, (s2e o v).length) := by
  unfold s2e at h hne ⊢
  split at h
  · rename_i hv
    rw [if_pos hv]
    have g := hd (w16 v / 256) (w16 v % 256) (at_s hs h (k := 0) rfl) (at_s hs h (k := 1) rfl) (at_s hs h (k := 2) rfl)
    rw [hv] at g
    exact g
  · rename_i hv
    rw [if_neg hv] at hne
    exact absurd rfl hne
theorem ec_ok {q : Instr} (hs : s = (bl cd).drop p) (hne : ec q ≠ []) (h : lnp (ec q) s = true) : decode cd p = .ok (q, (ec q).length) := by
  cases q
  case iaload => exact dc_iaload (at_s hs h (k := 0) rfl)
  case laload => exact dc_laload (at_s hs h (k := 0) rfl)
  case baload => exact dc_baload (at_s hs h (k := 0) rfl)
  case iastore => exact dc_iastore (at_s hs h (k := 0) rfl)
  case lastore => exact dc_lastore (at_s hs h (k := 0) rfl)
  case bastore => exact dc_bastore (at_s hs h (k := 0) rfl)
  case pop => exact dc_pop (at_s hs h (k := 0) rfl)
  case pop2 => exact dc_pop2 (at_s hs h (k := 0) rfl)
  case dup => exact dc_dup (at_s hs h (k := 0) rfl)
  case dup2 => exact dc_dup2 (at_s hs h (k := 0) rfl)
  case iadd => exact dc_iadd (at_s hs h (k := 0) rfl)
  case ladd => exact dc_ladd (at_s hs h (k := 0) rfl)
  case isub => exact dc_isub (at_s hs h (k := 0) rfl)
  case lsub => exact dc_lsub (at_s hs h (k := 0) rfl)
  case imul => exact dc_imul (at_s hs h (k := 0) rfl)
  case lmul => exact dc_lmul (at_s hs h (k := 0) rfl)
  case idiv => exact dc_idiv (at_s hs h (k := 0) rfl)
  case ldiv => exact dc_ldiv (at_s hs h (k := 0) rfl)
  case irem => exact dc_irem (at_s hs h (k := 0) rfl)
  case lrem => exact dc_lrem (at_s hs h (k := 0) rfl)
  case ineg => exact dc_ineg (at_s hs h (k := 0) rfl)
  case lneg => exact dc_lneg (at_s hs h (k := 0) rfl)
  case ishl => exact dc_ishl (at_s hs h (k := 0) rfl)
  case lshl => exact dc_lshl (at_s hs h (k := 0) rfl)
  case ishr => exact dc_ishr (at_s hs h (k := 0) rfl)
  case lshr => exact dc_lshr (at_s hs h (k := 0) rfl)
  case iushr => exact dc_iushr (at_s hs h (k := 0) rfl)
  case lushr => exact dc_lushr (at_s hs h (k := 0) rfl)
  case iand => exact dc_iand (at_s hs h (k := 0) rfl)
  case land => exact dc_land (at_s hs h (k := 0) rfl)
  case ior => exact dc_ior (at_s hs h (k := 0) rfl)
  case lor => exact dc_lor (at_s hs h (k := 0) rfl)
  case ixor => exact dc_ixor (at_s hs h (k := 0) rfl)
  case lxor => exact dc_lxor (at_s hs h (k := 0) rfl)
  case i2l => exact dc_i2l (at_s hs h (k := 0) rfl)
  case l2i => exact dc_l2i (at_s hs h (k := 0) rfl)
  case i2b => exact dc_i2b (at_s hs h (k := 0) rfl)
  case lcmp => exact dc_lcmp (at_s hs h (k := 0) rfl)
  case ireturn => exact dc_ireturn (at_s hs h (k := 0) rfl)
  case lreturn => exact dc_lreturn (at_s hs h (k := 0) rfl)
  case return_ => exact dc_return_ (at_s hs h (k := 0) rfl)
  case arraylength => exact dc_arraylength (at_s hs h (k := 0) rfl)
  case athrow => exact dc_athrow (at_s hs h (k := 0) rfl)
  case iconst n =>
    have e : ec (.iconst n) = if n = -1 then [2] else if n = 0 then [3] else if n = 1 then [4] else if n = 2 then [5] else if n = 3 then [6] else if n = 4 then [7] else if n = 5 then [8] else [] := rfl
    rw [e] at h hne ⊢
    by_cases h0 : n = -1
    · subst h0
      exact dc_iconst_0 (at_s hs h (k := 0) rfl)
    rw [if_neg h0] at h hne ⊢
    by_cases h1 : n = 0
    · subst h1
      exact dc_iconst_1 (at_s hs h (k := 0) rfl)
    rw [if_neg h1] at h hne ⊢
    by_cases h2 : n = 1
    · subst h2
      exact dc_iconst_2 (at_s hs h (k := 0) rfl)
    rw [if_neg h2] at h hne ⊢
    by_cases h3 : n = 2
    · subst h3
      exact dc_iconst_3 (at_s hs h (k := 0) rfl)
    rw [if_neg h3] at h hne ⊢
    by_cases h4 : n = 3
    · subst h4
      exact dc_iconst_4 (at_s hs h (k := 0) rfl)
    rw [if_neg h4] at h hne ⊢
    by_cases h5 : n = 4
    · subst h5
      exact dc_iconst_5 (at_s hs h (k := 0) rfl)
    rw [if_neg h5] at h hne ⊢
    by_cases h6 : n = 5
    · subst h6
      exact dc_iconst_6 (at_s hs h (k := 0) rfl)
    rw [if_neg h6] at h hne ⊢
    exact absurd rfl hne
  case lconst n =>
    match n with
    | 0 => exact dc_lconst_0 (at_s hs h (k := 0) rfl)
    | 1 => exact dc_lconst_1 (at_s hs h (k := 0) rfl)
  case iload_n n =>
    match n with
    | 0 => exact dc_iload_n_0 (at_s hs h (k := 0) rfl)
    | 1 => exact dc_iload_n_1 (at_s hs h (k := 0) rfl)
    | 2 => exact dc_iload_n_2 (at_s hs h (k := 0) rfl)
    | 3 => exact dc_iload_n_3 (at_s hs h (k := 0) rfl)
  case lload_n n =>
    match n with
    | 0 => exact dc_lload_n_0 (at_s hs h (k := 0) rfl)
    | 1 => exact dc_lload_n_1 (at_s hs h (k := 0) rfl)
    | 2 => exact dc_lload_n_2 (at_s hs h (k := 0) rfl)
    | 3 => exact dc_lload_n_3 (at_s hs h (k := 0) rfl)
  case aload_n n =>
    match n with
    | 0 => exact dc_aload_n_0 (at_s hs h (k := 0) rfl)
    | 1 => exact dc_aload_n_1 (at_s hs h (k := 0) rfl)
    | 2 => exact dc_aload_n_2 (at_s hs h (k := 0) rfl)
    | 3 => exact dc_aload_n_3 (at_s hs h (k := 0) rfl)
  case istore_n n =>
    match n with
    | 0 => exact dc_istore_n_0 (at_s hs h (k := 0) rfl)
    | 1 => exact dc_istore_n_1 (at_s hs h (k := 0) rfl)
    | 2 => exact dc_istore_n_2 (at_s hs h (k := 0) rfl)
    | 3 => exact dc_istore_n_3 (at_s hs h (k := 0) rfl)
  case lstore_n n =>
    match n with
    | 0 => exact dc_lstore_n_0 (at_s hs h (k := 0) rfl)
    | 1 => exact dc_lstore_n_1 (at_s hs h (k := 0) rfl)
    | 2 => exact dc_lstore_n_2 (at_s hs h (k := 0) rfl)
    | 3 => exact dc_lstore_n_3 (at_s hs h (k := 0) rfl)
  case astore_n n =>
    match n with
    | 0 => exact dc_astore_n_0 (at_s hs h (k := 0) rfl)
    | 1 => exact dc_astore_n_1 (at_s hs h (k := 0) rfl)
    | 2 => exact dc_astore_n_2 (at_s hs h (k := 0) rfl)
    | 3 => exact dc_astore_n_3 (at_s hs h (k := 0) rfl)
  case ldc n => exact dc_ldc (at_s hs h (k := 0) rfl) (at_s hs h (k := 1) rfl)
  case iload n => exact dc_iload (at_s hs h (k := 0) rfl) (at_s hs h (k := 1) rfl)
  case lload n => exact dc_lload (at_s hs h (k := 0) rfl) (at_s hs h (k := 1) rfl)
  case aload n => exact dc_aload (at_s hs h (k := 0) rfl) (at_s hs h (k := 1) rfl)
  case istore n => exact dc_istore (at_s hs h (k := 0) rfl) (at_s hs h (k := 1) rfl)
  case lstore n => exact dc_lstore (at_s hs h (k := 0) rfl) (at_s hs h (k := 1) rfl)
  case astore n => exact dc_astore (at_s hs h (k := 0) rfl) (at_s hs h (k := 1) rfl)
  case bipush v =>
    have e : ec (.bipush v) = if sg 8 (w8 v) = v then [16, w8 v] else [] := rfl
    rw [e] at h hne ⊢
    by_cases hv : sg 8 (w8 v) = v
    · rw [if_pos hv] at h ⊢
      have g := dc_bipush (at_s hs h (k := 0) rfl) (at_s hs h (k := 1) rfl)
      rw [hv] at g
      exact g
    · rw [if_neg hv] at hne
      exact absurd rfl hne
  case iinc n v =>
    have e : ec (.iinc n v) = if sg 8 (w8 v) = v then [132, n, w8 v] else [] := rfl
    rw [e] at h hne ⊢
    by_cases hv : sg 8 (w8 v) = v
    · rw [if_pos hv] at h ⊢
      have g := dc_iinc (at_s hs h (k := 0) rfl) (at_s hs h (k := 1) rfl) (at_s hs h (k := 2) rfl)
      rw [hv] at g
      exact g
    · rw [if_neg hv] at hne
      exact absurd rfl hne
  case newarray t =>
    cases t
    case boolean => exact dc_newarray_boolean (at_s hs h (k := 0) rfl) (at_s hs h (k := 1) rfl)
    case byte => exact dc_newarray_byte (at_s hs h (k := 0) rfl) (at_s hs h (k := 1) rfl)
    case int => exact dc_newarray_int (at_s hs h (k := 0) rfl) (at_s hs h (k := 1) rfl)
    case long => exact dc_newarray_long (at_s hs h (k := 0) rfl) (at_s hs h (k := 1) rfl)
    all_goals exact absurd rfl hne
  case ldc_w n => exact e2_ok (q := fun n => .ldc_w n) (fun _ _ => dc_ldc_w) hs h
  case ldc2_w n => exact e2_ok (q := fun n => .ldc2_w n) (fun _ _ => dc_ldc2_w) hs h
  case getstatic n => exact e2_ok (q := fun n => .getstatic n) (fun _ _ => dc_getstatic) hs h
  case getfield n => exact e2_ok (q := fun n => .getfield n) (fun _ _ => dc_getfield) hs h
  case putfield n => exact e2_ok (q := fun n => .putfield n) (fun _ _ => dc_putfield) hs h
  case invokevirtual n => exact e2_ok (q := fun n => .invokevirtual n) (fun _ _ => dc_invokevirtual) hs h
  case invokespecial n => exact e2_ok (q := fun n => .invokespecial n) (fun _ _ => dc_invokespecial) hs h
  case invokestatic n => exact e2_ok (q := fun n => .invokestatic n) (fun _ _ => dc_invokestatic) hs h
  case new n => exact e2_ok (q := fun n => .new n) (fun _ _ => dc_new) hs h
  case sipush v => exact s2_ok (q := fun v => .sipush v) (fun _ _ => dc_sipush) hs hne h
  case goto v => exact s2_ok (q := fun v => .goto v) (fun _ _ => dc_goto) hs hne h
  case ifCond c v =>
    cases c
    case eq => exact s2_ok (q := fun v => .ifCond .eq v) (fun _ _ => dc_if_eq) hs hne h
    case ne => exact s2_ok (q := fun v => .ifCond .ne v) (fun _ _ => dc_if_ne) hs hne h
    case lt => exact s2_ok (q := fun v => .ifCond .lt v) (fun _ _ => dc_if_lt) hs hne h
    case ge => exact s2_ok (q := fun v => .ifCond .ge v) (fun _ _ => dc_if_ge) hs hne h
    case gt => exact s2_ok (q := fun v => .ifCond .gt v) (fun _ _ => dc_if_gt) hs hne h
    case le => exact s2_ok (q := fun v => .ifCond .le v) (fun _ _ => dc_if_le) hs hne h
  case if_icmp c v =>
    cases c
    case eq => exact s2_ok (q := fun v => .if_icmp .eq v) (fun _ _ => dc_icmp_eq) hs hne h
    case ne => exact s2_ok (q := fun v => .if_icmp .ne v) (fun _ _ => dc_icmp_ne) hs hne h
    case lt => exact s2_ok (q := fun v => .if_icmp .lt v) (fun _ _ => dc_icmp_lt) hs hne h
    case ge => exact s2_ok (q := fun v => .if_icmp .ge v) (fun _ _ => dc_icmp_ge) hs hne h
    case gt => exact s2_ok (q := fun v => .if_icmp .gt v) (fun _ _ => dc_icmp_gt) hs hne h
    case le => exact s2_ok (q := fun v => .if_icmp .le v) (fun _ _ => dc_icmp_le) hs hne h
  all_goals exact absurd rfl hne
end NDE
end
section
def nkf (i a b c p ix : Nat) : Bool := Nat.blt a 13 && (Nat.blt b (cl_at a).2.2 && (wc p [0, mc i, ix, a, b] && Nat.beq (fcn a b) c))
def nkc (i a n : Nat) : Bool := (Nat.blt a 311 || Nat.beq a 314) && (Bool.not (Nat.beq a 205) && (Nat.ble ((mrm a).1 + 1) (mrm i).1 && (Nat.ble (8 + ((sm_mi a).2 + 11) + (mrm a).2) (mrm i).2 && Nat.beq (nnpr a) n)))
def lkr (i pc : Nat) (r : sm_R) (p : Nat) : Bool := match r with
  | (q, len, a, b, c, k, kl, sw) => (match q with
    | .iconst n => decide (Int32.ofInt n = k) && decide (len = 1)
    | .bipush n => decide ((Int8.ofInt n).toInt32 = k) && decide (len = 2)
    | .sipush n => decide ((Int16.ofInt n).toInt32 = k) && decide (len = 3)
    | .lconst n => decide (Int64.ofNat n.val = kl) && decide (len = 1)
    | .ldc ix => decide (len = 2) && (bif Nat.beq a 1 then decide ((my i).cls = "PowersHouse$Tape") && decide (ix = 64) else wi p (.constant (my i).cls ix k))
    | .ldc_w ix => wi p (.constant (my i).cls ix k) && decide (len = 3)
    | .ldc2_w ix => wi p (.constantLong (my i).cls ix kl) && decide (len = 3)
    | .iload _ => decide (len = 2)
    | .lload _ => decide (len = 2)
    | .aload _ => decide (len = 2)
    | .istore n => decide (len = 2) && decide (n < (sm_mi i).2)
    | .lstore n => decide (len = 2) && decide (n + 1 < (sm_mi i).2)
    | .astore n => decide (len = 2) && decide (n < (sm_mi i).2)
    | .istore_n n => decide (len = 1) && decide (n.val < (sm_mi i).2)
    | .lstore_n n => decide (len = 1) && decide (n.val + 1 < (sm_mi i).2)
    | .astore_n n => decide (len = 1) && decide (n.val < (sm_mi i).2)
    | .iinc n v => decide (Int32.ofInt v = k) && decide (len = 3) && decide (n < (sm_mi i).2)
    | .ifCond _ o => decide ((pc : Int) + o = (a : Int)) && decide (len = 3)
    | .if_icmp _ o => decide ((pc : Int) + o = (a : Int)) && decide (len = 3)
    | .goto o => decide ((pc : Int) + o = (a : Int)) && decide (len = 3)
    | .tableswitch d lo hi offs => decide ((pc : Int) + d = (a : Int)) && decide (lo ≤ hi) && decide (sw.map (fun e => e.1.toInt) = (List.range (hi - lo + 1).toNat).map (fun (j : Nat) => lo + (j : Int))) && decide (offs.toList.map (fun o => (pc : Int) + o) = sw.map (fun e => (e.2 : Int)))
    | .getfield ix => kf i a b c p ix && decide (len = 3)
    | .putfield ix => kf i a b c p ix && decide (len = 3) && (!((cl_at a).2.1 b).2.2.2 || (decide ((my i).name = "<init>") && decide (((cl_at a).2.1 b).1 = (my i).cls)))
    | .new ix => decide (a < 13) && decide (b = (cl_at a).2.2) && wi p (.classLink (my i).cls ix (cl_at a).1) && decide (len = 3)
    | .newarray t => decide (atag t = a) && decide (100 ≤ a) && decide (len = 2)
    | .invokevirtual ix => decide (len = 3) && (bif Nat.beq c 0 then kc i a (b - 1) && decide (1 ≤ b) && decide ((mq a).1 = 0) && wi p (.methodLink (my i).cls ix (my a)) && decide ((sm_mi a).1 < 13) && decide ((cl_at (sm_mi a).1).1 = (my a).cls) else decide (a ≤ 901) && kp i a b c p ix)
    | .invokestatic ix => decide (len = 3) && (bif Nat.beq c 1 then kc i a b && decide ((mq a).1 = 1) && wi p (.methodLink (my i).cls ix (my a)) else bif Nat.beq c 2 then kc i a b && decide ((mq a).1 = 1) && wn p (.methodLinkNest (my i).cls ix (my a) "PowersHouse") else decide (902 ≤ a) && kp i a b c p ix)
    | .invokespecial ix => decide (len = 3) && (bif Nat.beq c 3 then kc i a (b - 1) && decide (1 ≤ b) && decide ((mq a).1 = 2) && wi p (.methodLink (my i).cls ix (my a)) && decide ((my a).name = "<init>") else decide (c = 4) && decide (b = 1) && wi p (.methodLink (my i).cls ix Lib.objectInit) && decide (1 ≤ (mrm i).1) && decide (20 ≤ (mrm i).2))
    | .ireturn => decide (len = 1) && (bif Nat.beq a 1 then decide (mr i = some .boolean) else decide (mr i = some .int))
    | .lreturn => decide (mr i = some .long) && decide (len = 1)
    | .return_ => decide (mr i = none) && decide (len = 1)
    | .baload => (decide (a = 101) || decide (a = 102)) && decide (len = 1)
    | .bastore => (decide (a = 101) || decide (a = 102)) && decide (len = 1)
    | .arraylength => decide (100 ≤ a) && decide (a ≤ 103) && decide (len = 1)
    | _ => decide (len = 1))
def nkw (i pc : Nat) (r : sm_R) (p : Nat) : Bool := match r with
  | (q, len, a, b, c, k, kl, sw) => match q with
    | .getfield ix => (nkf i a b c p ix && decide (len = 3))
    | .putfield ix => (nkf i a b c p ix && (decide (len = 3) && (!((cl_at a).2.1 b).2.2.2 || (decide ((my i).name = "<init>") && decide (((cl_at a).2.1 b).1 = (my i).cls)))))
    | .new ix => (Nat.blt a 13 && (decide (b = (cl_at a).2.2) && (wc p [3, mc i, ix, a] && decide (len = 3))))
    | .invokevirtual ix => (decide (len = 3) && (bif Nat.beq c 0 then nkc i a (b - 1) && (Nat.ble 1 b && (Nat.beq (mq a).1 0 && (wc p [1, mc i, ix, a] && (Nat.blt (sm_mi a).1 13 && Nat.beq (mc a) (sm_mi a).1)))) else decide (a ≤ 901) && kp i a b c p ix))
    | .invokestatic ix => (decide (len = 3) && (bif Nat.beq c 1 then nkc i a b && (Nat.beq (mq a).1 1 && wc p [1, mc i, ix, a]) else bif Nat.beq c 2 then nkc i a b && (Nat.beq (mq a).1 1 && wc p [2, mc i, ix, a]) else decide (902 ≤ a) && kp i a b c p ix))
    | .invokespecial ix => (decide (len = 3) && (bif Nat.beq c 3 then nkc i a (b - 1) && (Nat.ble 1 b && (Nat.beq (mq a).1 2 && (wc p [1, mc i, ix, a] && decide ((my a).name = "<init>")))) else decide (c = 4) && decide (b = 1) && wi p (.methodLink (my i).cls ix Lib.objectInit) && decide (1 ≤ (mrm i).1) && decide (20 ≤ (mrm i).2)))
    | _ => lkr i pc r p
theorem nkf_ok {i a b c p ix : Nat} (hi : i < 316) (h : nkf i a b c p ix = true) : kf i a b c p ix = true := by
  have h1 := ba h
  have h2 := ba h1.2
  have h3 := ba h2.2
  have ha := nnlt h1.1
  have hb := nnlt h2.1
  unfold kf
  rw [decide_eq_true ha, decide_eq_true hb, wc_wi h3.1 (w := .fieldLink (my i).cls ix ((cl_at a).2.1 b).1 ((cl_at a).2.1 b).2.1 ((cl_at a).2.1 b).2.2.1) (by rw [mc_ok hi]; rfl) rfl, decide_eq_true ((fcn_ok ha hb).trans (neq h3.2))]
  rfl
theorem nkc_lt {i a n : Nat} (h : nkc i a n = true) : a < 315 := by
  have h1 := (ba h).1
  rw [Bool.or_eq_true] at h1
  rcases h1 with h1 | h1
  · have := nnlt h1; omega
  · have := neq h1; omega
theorem nkc_ok {i a n : Nat} (h : nkc i a n = true) : kc i a n = true := by
  have hlt := nkc_lt h
  have h1 := ba h
  have h2 := ba h1.2
  have h3 := ba h2.2
  have h4 := ba h3.2
  have e1 : (decide (a < 311) || decide (a = 314)) = true := by
    have g := h1.1
    rw [Bool.or_eq_true] at g ⊢
    exact g.imp (fun z => decide_eq_true (nnlt z)) (fun z => decide_eq_true (neq z))
  have e2 : a ≠ 205 := fun z => by
    have g := h2.1
    rw [z] at g
    cases g
  unfold kc
  rw [e1, decide_eq_true e2, decide_eq_true (nle h3.1), decide_eq_true (nle h4.1), decide_eq_true ((nnpr_ok (by omega)).trans (congrArg some (neq h4.2)))]
  rfl
theorem nkw_ok {i pc p : Nat} {r : sm_R} (hi : i < 316) (h : nkw i pc r p = true) : lkr i pc r p = true := by
  obtain ⟨q, len, a, b, c, k, kl, sw⟩ := r
  have hc := mc_ok hi
  cases q
  case getfield ix =>
    have h2 := ba h
    show ((kf i a b c p ix && decide (len = 3))) = true
    rw [nkf_ok hi h2.1, h2.2]
    rfl
  case putfield ix =>
    have h2 := ba h
    have h3 := ba h2.2
    show ((kf i a b c p ix && decide (len = 3) && (!((cl_at a).2.1 b).2.2.2 || (decide ((my i).name = "<init>") && decide (((cl_at a).2.1 b).1 = (my i).cls))))) = true
    rw [nkf_ok hi h2.1, h3.1, h3.2]
    rfl
  case new ix =>
    have h2 := ba h
    have h3 := ba h2.2
    have h4 := ba h3.2
    show ((decide (a < 13) && decide (b = (cl_at a).2.2) && wi p (.classLink (my i).cls ix (cl_at a).1) && decide (len = 3))) = true
    rw [decide_eq_true (nnlt h2.1), h3.1, wc_wi h4.1 (w := .classLink (my i).cls ix (cl_at a).1) (by rw [hc]; rfl) rfl, h4.2]
    rfl
  case invokevirtual ix =>
    have h2 := ba h
    show ((decide (len = 3) && (bif Nat.beq c 0 then kc i a (b - 1) && decide (1 ≤ b) && decide ((mq a).1 = 0) && wi p (.methodLink (my i).cls ix (my a)) && decide ((sm_mi a).1 < 13) && decide ((cl_at (sm_mi a).1).1 = (my a).cls) else decide (a ≤ 901) && kp i a b c p ix))) = true
    rw [h2.1]
    have h3 := h2.2
    cases hb : Nat.beq c 0 with
    | true =>
      rw [hb] at h3
      have h3 := ba h3
      have h4 := ba h3.2
      have h5 := ba h4.2
      have h6 := ba h5.2
      have h7 := ba h6.2
      have hlt := nkc_lt h3.1
      have e : (cl_at (sm_mi a).1).1 = (my a).cls := by rw [mc_ok (i := a) (by omega), neq h7.2]; exact cn_ok (nnlt h7.1)
      simp only [cond_true]
      rw [nkc_ok h3.1, decide_eq_true (nle h4.1), decide_eq_true (neq h5.1), wc_wi h6.1 (w := .methodLink (my i).cls ix (my a)) (by rw [hc]; rfl) rfl, decide_eq_true (nnlt h7.1), decide_eq_true e]
      rfl
    | false =>
      rw [hb] at h3
      have h3 := ba h3
      simp only [cond_false]
      rw [h3.1, h3.2]
      rfl
  case invokestatic ix =>
    have h2 := ba h
    show ((decide (len = 3) && (bif Nat.beq c 1 then kc i a b && decide ((mq a).1 = 1) && wi p (.methodLink (my i).cls ix (my a)) else bif Nat.beq c 2 then kc i a b && decide ((mq a).1 = 1) && wn p (.methodLinkNest (my i).cls ix (my a) "PowersHouse") else decide (902 ≤ a) && kp i a b c p ix))) = true
    rw [h2.1]
    have h3 := h2.2
    cases hb : Nat.beq c 1 with
    | true =>
      rw [hb] at h3
      have h3 := ba h3
      have h4 := ba h3.2
      simp only [cond_true]
      rw [nkc_ok h3.1, decide_eq_true (neq h4.1), wc_wi h4.2 (w := .methodLink (my i).cls ix (my a)) (by rw [hc]; rfl) rfl]
      rfl
    | false =>
      rw [hb] at h3
      simp only [cond_false] at h3 ⊢
      cases hb2 : Nat.beq c 2 with
      | true =>
        rw [hb2] at h3
        have h3 := ba h3
        have h4 := ba h3.2
        simp only [cond_true]
        rw [nkc_ok h3.1, decide_eq_true (neq h4.1), wc_wn h4.2 (w := .methodLinkNest (my i).cls ix (my a) "PowersHouse") (by rw [hc]; rfl)]
        rfl
      | false =>
        rw [hb2] at h3
        have h3 := ba h3
        simp only [cond_false]
        rw [h3.1, h3.2]
        rfl
  case invokespecial ix =>
    have h2 := ba h
    show ((decide (len = 3) && (bif Nat.beq c 3 then kc i a (b - 1) && decide (1 ≤ b) && decide ((mq a).1 = 2) && wi p (.methodLink (my i).cls ix (my a)) && decide ((my a).name = "<init>") else decide (c = 4) && decide (b = 1) && wi p (.methodLink (my i).cls ix Lib.objectInit) && decide (1 ≤ (mrm i).1) && decide (20 ≤ (mrm i).2)))) = true
    rw [h2.1]
    have h3 := h2.2
    cases hb : Nat.beq c 3 with
    | true =>
      rw [hb] at h3
      have h3 := ba h3
      have h4 := ba h3.2
      have h5 := ba h4.2
      have h6 := ba h5.2
      simp only [cond_true]
      rw [nkc_ok h3.1, decide_eq_true (nle h4.1), decide_eq_true (neq h5.1), wc_wi h6.1 (w := .methodLink (my i).cls ix (my a)) (by rw [hc]; rfl) rfl, h6.2]
      rfl
    | false =>
      rw [hb] at h3
      simp only [cond_false] at h3 ⊢
      rw [h3]
      rfl
  all_goals exact h
def nkd (i pc : Nat) (s : List Nat) (q : Instr) (len : Nat) : Bool := match ec q with
  | [] => decide (decode (mb i) pc = .ok (q, len))
  | x :: t => lnp (x :: t) s && Nat.beq len (t.length + 1)
theorem nkd_ok {i pc len : Nat} {s : List Nat} {q : Instr} (hs : s = (bl (mb i)).drop pc) (h : nkd i pc s q len = true) : decode (mb i) pc = .ok (q, len) := by
  unfold nkd at h
  split at h
  · exact of_decide_eq_true h
  · rename_i x t e
    have h := ba h
    have hl : len = (ec q).length := by rw [e, neq h.2]; rfl
    rw [hl]
    exact ec_ok hs (by rw [e]; exact List.cons_ne_nil _ _) (by rw [e]; exact h.1)
def nkl (i : Nat) : Nat → List Nat → List ((Nat × List Bool × sm_R) × Nat) → Bool
  | _, _, [] => true
  | pc, s, e :: l => (Nat.beq e.1.1 pc && (nkd i e.1.1 s e.1.2.2.1 e.1.2.2.2.1 && nkw i e.1.1 e.1.2.2 e.2)) && nkl i (e.1.1 + e.1.2.2.2.1) (s.drop e.1.2.2.2.1) l
theorem nkl_ok {i : Nat} (hi : i < 316) : ∀ (l : List ((Nat × List Bool × sm_R) × Nat)) (pc : Nat) (s : List Nat), s = (bl (mb i)).drop pc → nkl i pc s l = true → ∀ e ∈ l, lkb i e.1.1 e.1.2.2 e.2 = true
  | [], _, _, _, _, _, he => by cases he
  | x :: l, pc, s, hs, h, e, he => by
    have h1 := ba h
    have h2 := ba h1.1
    have h3 := ba h2.2
    have hpc := neq h2.1
    rw [← hpc] at hs
    rcases List.mem_cons.mp he with rfl | he
    · obtain ⟨⟨p0, ks, q, len, a, b, c, k, kl, sw⟩, pp⟩ := e
      have hd : decode (mb i) p0 = .ok (q, len) := nkd_ok hs h3.1
      show (decide (decode (mb i) p0 = .ok (q, len)) && lkr i p0 (q, len, a, b, c, k, kl, sw) pp) = true
      rw [decide_eq_true hd, nkw_ok hi h3.2]
      rfl
    · exact nkl_ok hi l _ _ (by rw [hs, List.drop_drop]) h1.2 e he
def nkm (i : Nat) : Bool := decide ((sm_pos i).length = (sm_code i).length) && nkl i 0 (bl (mb i)) ((sm_code i).zip (sm_pos i))
theorem nkm_ok {i : Nat} (hi : i < 316) (h : nkm i = true) : lkm i = true := by
  have h1 := ba h
  unfold lkm
  rw [h1.1, List.all_eq_true.mpr (nkl_ok hi _ 0 _ rfl h1.2)]
  rfl
def nlw (i : Nat) : Bool := Bool.not (Nat.beq (mc i) 14) && (wc (mq i).2.2.2.2 [8, mc i] && (match (mq i).1 with
  | 0 => wc (mq i).2.2.1 [6, i] && wc (mq i).2.2.2.1 [9, i]
  | 1 => wc (mq i).2.2.1 [7, i]
  | _ => wc (mq i).2.2.1 [6, i]))
theorem nlw_ok {i : Nat} (hi : i < 316) (h : nlw i = true) : lkw i = true := by
  have h0 := ba h
  have h1 := ba h0.2
  have hc := mc_ok hi
  have hp := List.all_eq_true.mp cp_all (mc i) (List.mem_range.mpr (nnlt (List.all_eq_true.mp mc_lt_all i (List.mem_range.mpr hi))))
  have hp : (decide (cn (mc i) ≠ "java/lang/invoke/MethodHandle") && decide (cn (mc i) ≠ "java/lang/invoke/VarHandle") && plainName (cn (mc i))) = true := by
    have g := h0.1
    cases hb : Nat.beq (mc i) 14 with
    | true => rw [hb] at g; cases g
    | false => rw [hb] at hp; exact hp
  have hp1 := ba hp
  have hp2 := ba hp1.1
  unfold lkw
  rw [wc_wi h1.1 (w := .initialized (my i).cls) (by rw [hc]; rfl) rfl, hc, hp2.1, hp2.2, hp1.2]
  simp only [Bool.true_and]
  have h2 := h1.2
  generalize (mq i).1 = z at h2 ⊢
  match z, h2 with
  | 0, h2 =>
    have h3 := ba h2
    show (wi (mq i).2.2.1 (.instanceMethod (my i)) && wi (mq i).2.2.2.1 (.selects (cn (mc i)) (my i) (my i))) = true
    rw [wc_wi h3.1 (w := .instanceMethod (my i)) rfl rfl, wc_wi h3.2 (w := .selects (cn (mc i)) (my i) (my i)) (by rw [← hc]; rfl) rfl]
    rfl
  | 1, h2 => exact wc_wi h2 (w := .static (my i)) rfl rfl
  | z + 2, h2 => exact wc_wi h2 (w := .instanceMethod (my i)) rfl rfl
end
section
def ty (i : Nat) : Nat := bif Nat.beq i 207 then 212 else i
theorem ty_ok (i : Nat) : my (ty i) = my i ∧ mb (ty i) = mb i ∧ (sm_mi (ty i)).2 = (sm_mi i).2 ∧ mr (ty i) = mr i ∧ mq (ty i) = mq i ∧ mc (ty i) = mc i := by
  unfold ty
  cases h : Nat.beq i 207 with
  | true =>
    have := neq h
    subst this
    exact ⟨rfl, rfl, rfl, rfl, rfl, rfl⟩
  | false => exact ⟨rfl, rfl, rfl, rfl, rfl, rfl⟩
theorem cwn_0 : ((List.range' 0 80).all fun i => wc (mq i).2.1 [10, ty i]) = true := by decide +kernel
theorem lwn_0 : ((List.range' 0 80).all fun i => Nat.beq i 311 || (Nat.beq i 312 || (Nat.beq i 313 || (Nat.beq i 207 || nlw i)))) = true := by decide +kernel
theorem cwn_80 : ((List.range' 80 80).all fun i => wc (mq i).2.1 [10, ty i]) = true := by decide +kernel
theorem lwn_80 : ((List.range' 80 80).all fun i => Nat.beq i 311 || (Nat.beq i 312 || (Nat.beq i 313 || (Nat.beq i 207 || nlw i)))) = true := by decide +kernel
theorem cwn_160 : ((List.range' 160 80).all fun i => wc (mq i).2.1 [10, ty i]) = true := by decide +kernel
theorem lwn_160 : ((List.range' 160 80).all fun i => Nat.beq i 311 || (Nat.beq i 312 || (Nat.beq i 313 || (Nat.beq i 207 || nlw i)))) = true := by decide +kernel
theorem cwn_240 : ((List.range' 240 75).all fun i => wc (mq i).2.1 [10, ty i]) = true := by decide +kernel
theorem lwn_240 : ((List.range' 240 75).all fun i => Nat.beq i 311 || (Nat.beq i 312 || (Nat.beq i 313 || (Nat.beq i 207 || nlw i)))) = true := by decide +kernel
theorem cw_of {l : List Nat} {i : Nat} (h : (l.all fun i => wc (mq i).2.1 [10, ty i]) = true) (hi : i ∈ l) : lw_tbl[(mq i).2.1]? = some (.code (my i) (mb i) (sm_mi i).2 (mr i)) := by
  have h := wc_ok (List.all_eq_true.mp h i hi)
  obtain ⟨e1, e2, e3, e4, -, -⟩ := ty_ok i
  rw [h]
  show some (Cond.code (my (ty i)) (mb (ty i)) (sm_mi (ty i)).2 (mr (ty i))) = _
  rw [e1, e2, e3, e4]
theorem cw_all : ∀ i, i < 315 → lw_tbl[(mq i).2.1]? = some (.code (my i) (mb i) (sm_mi i).2 (mr i)) := by
  intro i h
  by_cases h80 : i < 80
  · exact cw_of cwn_0 (List.mem_range'_1.mpr ⟨by omega, by omega⟩)
  by_cases h160 : i < 160
  · exact cw_of cwn_80 (List.mem_range'_1.mpr ⟨by omega, by omega⟩)
  by_cases h240 : i < 240
  · exact cw_of cwn_160 (List.mem_range'_1.mpr ⟨by omega, by omega⟩)
  exact cw_of cwn_240 (List.mem_range'_1.mpr ⟨by omega, by omega⟩)
theorem lkw_ty {i : Nat} (h : lkw (ty i) = true) : lkw i = true := by
  obtain ⟨e1, -, -, -, e5, -⟩ := ty_ok i
  unfold lkw at h ⊢
  rw [e1, e5] at h
  exact h
theorem lkw_of {l : List Nat} {i : Nat} (h : (l.all fun i => Nat.beq i 311 || (Nat.beq i 312 || (Nat.beq i 313 || (Nat.beq i 207 || nlw i)))) = true) (hi : i ∈ l) (hn : i < 311 ∨ i = 314) : i = 207 ∨ lkw i = true := by
  have h := List.all_eq_true.mp h i hi
  simp only [Bool.or_eq_true] at h
  rcases h with h | h | h | h | h
  · have := neq h; omega
  · have := neq h; omega
  · have := neq h; omega
  · exact Or.inl (neq h)
  · exact Or.inr (nlw_ok (by omega) h)
theorem lkw_al0 : ∀ i, i < 315 → (i < 311 ∨ i = 314) → i = 207 ∨ lkw i = true := by
  intro i h hn
  by_cases h80 : i < 80
  · exact lkw_of lwn_0 (List.mem_range'_1.mpr ⟨by omega, by omega⟩) hn
  by_cases h160 : i < 160
  · exact lkw_of lwn_80 (List.mem_range'_1.mpr ⟨by omega, by omega⟩) hn
  by_cases h240 : i < 240
  · exact lkw_of lwn_160 (List.mem_range'_1.mpr ⟨by omega, by omega⟩) hn
  exact lkw_of lwn_240 (List.mem_range'_1.mpr ⟨by omega, by omega⟩) hn
theorem lkw_all : ∀ i, i < 315 → (i < 311 ∨ i = 314) → lkw i = true := by
  intro i h hn
  rcases lkw_al0 i h hn with e | e
  · subst e
    refine lkw_ty ?_
    exact (lkw_al0 212 (by decide) (by decide)).resolve_left (by decide)
  · exact e
end
