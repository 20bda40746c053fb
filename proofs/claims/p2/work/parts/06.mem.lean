/-! The start: kinds and references of all cells, by their numbers:
  0: House
  1: House.realm
  2: Realm.souls
  3: Realm.nearBits
  4: Realm.holder
  5: Realm.claims
  6: Realm.wayLength
  7: Realm.wayState
  8: Realm.wayDay
  9: Realm.wayPaper
  10: Realm.rank
  11: Realm.home
  12: Realm.bounds
  13: Realm.worths
  14: House.tape
  15: Tape.bytes
  16: House.reader
  17: Read.code
  18: Read.verb
  19: Read.lineEnd
  20: Read.waiting
  21: House.book
  22: Book.lines
  23: Book.codes
  24: Book.verbs
  25: Book.lineEnds
  26: House.spies
  27: Spy.owner
  28: Spy.victim
  29: Spy.firstDay
  30: Spy.lastDay
  31: House.papers
  32: Pap.from
  33: Pap.to
  34: Pap.told
  35: Pap.words
  36: Pap.openers
  37: Pap.gives
  38: Pap.takes
  39: Pap.till
  40: Pap.links
  41: Pap.root
  42: Pap.standing
  43: Pap.line
  44: Pap.answer
  45: House.delegates
  46: Del.view
  47: Del.stack
  48: Set.shares
  49: Shar.start
  50: Shar.reach
  51: Shar.most
  52: House.settlements
  53: Set.lands
  54: Set.claimants
  55: Set.choice
  56: Set.gets
  57: Set.hasNow
  58: Set.bounds
  59: Set.bestChoice
  60: House.settlementsWithout
  61: SetW.lands
  62: SetW.claimants
  63: SetW.choice
  64: SetW.gets
  65: SetW.hasNow
  66: SetW.bounds
  67: SetW.bestChoice
  68: House.ring
  69: Ring.members
  70: Ring.lands
  71: House.articles
  72: Art.lengths
  73: Art.words
  74: Art.hangsOn
  75: Art.reserves
  76: Art.left
  77: Art.right
  78: Art.steps
  79: Art.sums
  80: Art.held
  81: Model
  82: Model.tape
  83: Model.souls
  84: Model.nearOf
  85: Model.holder
  86: Model.claims
  87: Model.ways
  88: Model.wayOf
  89: Model.rank
  90: Model.home
  91: Model.worths
  92: Model.bounds
  93: Model.words
  94: Model.knot
  95: Model.left
  96: Model.right
  97: Model.amount
  98: Model.goesBy
  99: Model.verb
  100: Model.first
  101: Model.many
  102: Model.lines
  103: Model.wait
  104: Model.waitOf
  105: Model.held
  106: Model.compared
  107: Model.isNote
  108: Model.from
  109: Model.to
  110: Model.toldOn
  111: Model.gives
  112: Model.takes
  113: Model.till
  114: Model.link
  115: Model.wordOf
  116: Model.opened
  117: Model.fate
  118: Model.lineOf
  119: Model.answer
  120: Model.spy
  121: Model.worked
  122: Model.inChain
  123: Model.disputed
  124: Model.claimant
  125: Model.claimants
  126: Model.sure
  127: Model.now
  128: Model.gets
  129: Model.given
  130: Model.leaves
  131: Model.bestOf
  132: Model.kept
  133: Model.ring
  134: Model.ringLand
  135: Model.size
  136: Model.text
  137: Model.hangs
  138: Model.reserves
  139: Model.far
  140: Model.heldBy
  141: Model.openNow
  142: the law's out
-/
def sK0 : List (Nat × Nat) := [(11, 11), (5, 17), (100, 12), (100, 12), (100, 12), (100, 12), (100, 12), (100, 960), (100, 960), (100, 960), (100, 6), (100, 6), (100, 6), (100, 72), (10, 6), (102, 400), (3, 14), (100, 64), (100, 16), (100, 16), (100, 72), (2, 4), (100, 6), (100, 384), (100, 96), (100, 96), (9, 5), (100, 20), (100, 20), (100, 20), (100, 20), (4, 14), (100, 60), (100, 60), (100, 60), (100, 60), (100, 60), (100, 60), (100, 60), (100, 60), (100, 60), (100, 60), (100, 60), (100, 60), (100, 60), (1, 6), (103, 12), (103, 64), (8, 6), (100, 15), (100, 15), (100, 0), (7, 20), (100, 8), (100, 8), (100, 8), (100, 6), (100, 6), (100, 6), (100, 8), (7, 20), (100, 8), (100, 8), (100, 8), (100, 6), (100, 6), (100, 6), (100, 8), (6, 5), (100, 4), (100, 4), (0, 11), (100, 48), (100, 384), (100, 8), (100, 8), (100, 8), (100, 8), (100, 81), (100, 6), (100, 8), (12, 90), (100, 400), (100, 12), (101, 144), (100, 12), (100, 12), (100, 12), (100, 3600), (100, 6), (100, 6), (100, 72), (100, 6), (100, 95), (100, 448), (100, 448), (100, 448), (100, 448), (100, 448), (100, 112), (100, 112), (100, 112), (100, 7), (100, 120), (100, 120), (100, 120), (101, 8), (101, 60), (100, 60), (100, 60), (100, 60), (100, 60), (100, 60), (100, 60), (100, 60), (100, 60), (100, 60), (100, 60), (100, 60), (100, 60), (100, 80), (103, 384), (101, 60), (100, 12), (100, 24), (100, 8), (100, 6), (100, 6), (100, 6), (100, 8), (100, 43200), (100, 12), (101, 64), (100, 4), (100, 4), (100, 48), (100, 384), (101, 64), (100, 8), (100, 81), (100, 8), (101, 8), (103, 1)]
def sK (mo : Bool) : List (Nat × Nat) := sK0 ++ (bif mo then [(100, 5955)] else [])
def sR (mo : Bool) : List (List (Option Nat)) := [[some 1, some 14, some 16, some 21, some 26, some 31, some 45, some 52, some 60, some 68, some 71],
  [none, none, none, none, none, some 2, some 3, some 4, some 5, some 6, some 7, some 8, some 9, some 10, some 11, some 12, some 13],
  [],
  [],
  [],
  [],
  [],
  [],
  [],
  [],
  [],
  [],
  [],
  [],
  [none, none, none, some 15, none, none],
  [],
  [none, none, none, none, some 17, some 18, some 19, some 14, some 20, none, none, none, none, none],
  [],
  [],
  [],
  [],
  [some 22, some 23, some 24, some 25],
  [],
  [],
  [],
  [],
  [none, some 27, some 28, some 29, some 30],
  [],
  [],
  [],
  [],
  [none, some 32, some 33, some 34, some 35, some 36, some 37, some 38, some 39, some 40, some 41, some 42, some 43, some 44],
  [],
  [],
  [],
  [],
  [],
  [],
  [],
  [],
  [],
  [],
  [],
  [],
  [],
  [some 1, some 31, some 21, some 46, some 47, none],
  [],
  [],
  [some 1, none, none, some 49, some 50, bif mo then some 143 else some 51],
  [],
  [],
  [],
  [some 1, some 48, none, none, none, none, some 53, some 54, some 55, some 56, some 57, some 58, none, none, none, none, none, none, none, some 59],
  [],
  [],
  [],
  [],
  [],
  [],
  [],
  [some 1, some 48, none, none, none, none, some 61, some 62, some 63, some 64, some 65, some 66, none, none, none, none, none, none, none, some 67],
  [],
  [],
  [],
  [],
  [],
  [],
  [],
  [some 1, some 69, some 70, none, none],
  [],
  [],
  [none, some 1, some 72, some 73, some 74, some 75, some 76, some 77, some 78, some 79, some 80],
  [],
  [],
  [],
  [],
  [],
  [],
  [],
  [],
  [],
  [some 82, none, none, none, some 83, some 84, some 85, some 86, some 87, some 88, none, some 89, some 90, some 91, some 92, none, none, some 93, none, none, none, none, none, none, none, some 94, some 95, some 96, some 97, some 98, some 99, some 100, some 101, some 102, none, none, some 103, some 104, none, some 105, none, some 106, none, none, none, none, none, some 107, some 108, some 109, some 110, some 111, some 112, some 113, some 114, some 115, some 116, some 117, some 118, some 119, none, some 120, some 121, none, some 122, none, some 123, some 124, some 125, none, some 126, some 127, some 128, some 129, some 130, some 131, none, none, some 132, some 133, some 134, none, some 135, some 136, some 137, some 138, some 139, some 140, none, some 141],
  [],
  [],
  [],
  [],
  [],
  [],
  [],
  [],
  [],
  [],
  [],
  [],
  [],
  [],
  [],
  [],
  [],
  [],
  [],
  [],
  [],
  [],
  [],
  [],
  [],
  [],
  [],
  [],
  [],
  [],
  [],
  [],
  [],
  [],
  [],
  [],
  [],
  [],
  [],
  [],
  [],
  [],
  [],
  [],
  [],
  [],
  [],
  [],
  [],
  [],
  [],
  [],
  [],
  [],
  [],
  [],
  [],
  [],
  [],
  [],
  []] ++ (bif mo then [[]] else [])
abbrev sM (mo : Bool) (G : Nat × Nat) (I : Nat → Nat → Int32) (J : Nat → Nat → Int64) : sm_M := (sK mo, G, I, J, sR mo)
theorem tt_all : (List.range 316).all (fun i => sm_lin (sm_code i)) = true := by decide +kernel
theorem tt_lin (i : Nat) (h : i < 316) : sm_lin (sm_code i) = true := List.all_eq_true.mp tt_all i (List.mem_range.mpr h)
