/-! names, field tables, methods: printed by wip/whole/gen.py out of the Statement's own words and javap's listing -/
def qgoodw (w : Cond) : Bool := match w with
  | .methodLinkNest .. => true
  | .fieldLinkNest .. => true
  | w => goodWord w
/-- the words that a callee has, too -/
def qtb : List Cond := lw_tbl.filter qgoodw
theorem qmem {w : Cond} {i : Nat} (h : lw_tbl[i]? = some w) (hg : qgoodw w = true) : w ∈ qtb := List.mem_filter.mpr ⟨List.mem_of_getElem? h, hg⟩
theorem qmems {ws : List Cond} (ps : List Nat) (h : ws = ps.filterMap (fun i => lw_tbl[i]?)) (hg : ws.all qgoodw = true) : ∀ w ∈ ws, w ∈ qtb := by
  intro w hw
  have h2 := List.all_eq_true.mp hg w hw
  rw [h] at hw
  obtain ⟨i, -, hi⟩ := List.mem_filterMap.mp hw
  exact qmem hi h2
def qT0 : u_T := fun k => match k with
  | 0 => ("CheesePost", "alps", "LCheesePost$Alps;", true)
  | 1 => ("CheesePost", "images", "[LCheesePost$Alps;", true)
  | 2 => ("CheesePost", "kept", "[Z", true)
  | 3 => ("CheesePost", "tape", "[I", true)
  | 4 => ("CheesePost", "tapeLength", "I", false)
  | 5 => ("CheesePost", "crumbs", "I", false)
  | 6 => ("CheesePost", "fault", "I", false)
  | 7 => ("CheesePost", "stopped", "I", false)
  | 8 => ("CheesePost", "status", "I", false)
  | 9 => ("CheesePost", "refusals", "[I", true)
  | 10 => ("CheesePost", "judge", "LCheesePost$Judge;", true)
  | 11 => ("CheesePost", "ride", "LCheesePost$Ride;", true)
  | 12 => ("CheesePost", "casts", "LCheesePost$Casts;", true)
  | 13 => ("CheesePost", "sends", "LCheesePost$Sends;", true)
  | 14 => ("CheesePost", "reader", "LCheesePost$Reader;", true)
  | 15 => ("CheesePost", "clerk", "LCheesePost$Clerk;", true)
  | 16 => ("CheesePost", "carrier", "LCheesePost$Carrier;", true)
  | 17 => ("CheesePost", "summerEnds", "[I", true)
  | _ => ("CheesePost", "drawing", "I", false)
def qty0 : Nat → FieldType := fun k => match k with
  | 0 => .object "CheesePost$Alps"
  | 1 => .array (.object "CheesePost$Alps")
  | 2 => .array .boolean
  | 3 => .array .int
  | 4 => .int
  | 5 => .int
  | 6 => .int
  | 7 => .int
  | 8 => .int
  | 9 => .array .int
  | 10 => .object "CheesePost$Judge"
  | 11 => .object "CheesePost$Ride"
  | 12 => .object "CheesePost$Casts"
  | 13 => .object "CheesePost$Sends"
  | 14 => .object "CheesePost$Reader"
  | 15 => .object "CheesePost$Clerk"
  | 16 => .object "CheesePost$Carrier"
  | 17 => .array .int
  | _ => .int
def qT1 : u_T := fun k => match k with
  | 0 => ("CheesePost$Alps", "meadow", "LCheesePost$Meadow;", true)
  | 1 => ("CheesePost$Alps", "sizes", "[I", true)
  | 2 => ("CheesePost$Alps", "ripes", "[I", true)
  | 3 => ("CheesePost$Alps", "gone", "[I", true)
  | 4 => ("CheesePost$Alps", "letterHouses", "[I", true)
  | 5 => ("CheesePost$Alps", "letterWorths", "[I", true)
  | 6 => ("CheesePost$Alps", "terms", "[I", true)
  | 7 => ("CheesePost$Alps", "laws", "[LCheesePost$Text;", true)
  | 8 => ("CheesePost$Alps", "traceCells", "[I", true)
  | 9 => ("CheesePost$Alps", "traceBroken", "[I", true)
  | 10 => ("CheesePost$Alps", "wheels", "I", false)
  | 11 => ("CheesePost$Alps", "letters", "I", false)
  | 12 => ("CheesePost$Alps", "lawCount", "I", false)
  | 13 => ("CheesePost$Alps", "inForce", "I", false)
  | _ => ("CheesePost$Alps", "traces", "I", false)
def qty1 : Nat → FieldType := fun k => match k with
  | 0 => .object "CheesePost$Meadow"
  | 1 => .array .int
  | 2 => .array .int
  | 3 => .array .int
  | 4 => .array .int
  | 5 => .array .int
  | 6 => .array .int
  | 7 => .array (.object "CheesePost$Text")
  | 8 => .array .int
  | 9 => .array .int
  | 10 => .int
  | 11 => .int
  | 12 => .int
  | 13 => .int
  | _ => .int
def qT2 : u_T := fun k => match k with
  | 0 => ("CheesePost$Carrier", "alps", "LCheesePost$Alps;", true)
  | 1 => ("CheesePost$Carrier", "loads", "[I", true)
  | 2 => ("CheesePost$Carrier", "ways", "[I", true)
  | 3 => ("CheesePost$Carrier", "plans", "[I", true)
  | 4 => ("CheesePost$Carrier", "tours", "[[I", true)
  | _ => ("CheesePost$Carrier", "all", "I", false)
def qty2 : Nat → FieldType := fun k => match k with
  | 0 => .object "CheesePost$Alps"
  | 1 => .array .int
  | 2 => .array .int
  | 3 => .array .int
  | 4 => .array (.array .int)
  | _ => .int
def qT3 : u_T := fun k => match k with
  | 0 => ("CheesePost$Casts", "alps", "LCheesePost$Alps;", true)
  | 1 => ("CheesePost$Casts", "judge", "LCheesePost$Judge;", true)
  | 2 => ("CheesePost$Casts", "rides", "[LCheesePost$Ride;", true)
  | 3 => ("CheesePost$Casts", "rowEnds", "[I", true)
  | 4 => ("CheesePost$Casts", "rows", "I", false)
  | 5 => ("CheesePost$Casts", "found", "I", false)
  | 6 => ("CheesePost$Casts", "best", "I", false)
  | 7 => ("CheesePost$Casts", "bestCost", "I", false)
  | 8 => ("CheesePost$Casts", "bestSteps", "I", false)
  | 9 => ("CheesePost$Casts", "bestHits", "I", false)
  | 10 => ("CheesePost$Casts", "bestRows", "I", false)
  | 11 => ("CheesePost$Casts", "cheapest", "[[I", true)
  | 12 => ("CheesePost$Casts", "bestFrom", "[[I", true)
  | 13 => ("CheesePost$Casts", "letterWheels", "[I", true)
  | 14 => ("CheesePost$Casts", "postWorth", "I", false)
  | 15 => ("CheesePost$Casts", "postCosts", "I", false)
  | _ => ("CheesePost$Casts", "postGoing", "I", false)
def qty3 : Nat → FieldType := fun k => match k with
  | 0 => .object "CheesePost$Alps"
  | 1 => .object "CheesePost$Judge"
  | 2 => .array (.object "CheesePost$Ride")
  | 3 => .array .int
  | 4 => .int
  | 5 => .int
  | 6 => .int
  | 7 => .int
  | 8 => .int
  | 9 => .int
  | 10 => .int
  | 11 => .array (.array .int)
  | 12 => .array (.array .int)
  | 13 => .array .int
  | 14 => .int
  | 15 => .int
  | _ => .int
def qT4 : u_T := fun k => match k with
  | 0 => ("CheesePost$Clerk", "alps", "LCheesePost$Alps;", true)
  | 1 => ("CheesePost$Clerk", "sends", "LCheesePost$Sends;", true)
  | 2 => ("CheesePost$Clerk", "ahead", "LCheesePost$Alps;", true)
  | 3 => ("CheesePost$Clerk", "words", "[I", true)
  | 4 => ("CheesePost$Clerk", "stack", "[I", true)
  | 5 => ("CheesePost$Clerk", "sums", "[I", true)
  | 6 => ("CheesePost$Clerk", "aheadTop", "I", false)
  | 7 => ("CheesePost$Clerk", "aheadSize", "I", false)
  | 8 => ("CheesePost$Clerk", "arrived", "I", false)
  | 9 => ("CheesePost$Clerk", "lastEnd", "I", false)
  | _ => ("CheesePost$Clerk", "done", "I", false)
def qty4 : Nat → FieldType := fun k => match k with
  | 0 => .object "CheesePost$Alps"
  | 1 => .object "CheesePost$Sends"
  | 2 => .object "CheesePost$Alps"
  | 3 => .array .int
  | 4 => .array .int
  | 5 => .array .int
  | 6 => .int
  | 7 => .int
  | 8 => .int
  | 9 => .int
  | _ => .int
def qT5 : u_T := fun k => match k with
  | 0 => ("CheesePost$Judge", "alps", "LCheesePost$Alps;", true)
  | 1 => ("CheesePost$Judge", "words", "[I", true)
  | 2 => ("CheesePost$Judge", "stack", "[I", true)
  | 3 => ("CheesePost$Judge", "keptSlows", "[I", true)
  | 4 => ("CheesePost$Judge", "keptShuts", "[I", true)
  | 5 => ("CheesePost$Judge", "law", "LCheesePost$Text;", false)
  | 6 => ("CheesePost$Judge", "epoch", "I", false)
  | 7 => ("CheesePost$Judge", "slowsTold", "Z", false)
  | _ => ("CheesePost$Judge", "shutsTold", "Z", false)
def qty5 : Nat → FieldType := fun k => match k with
  | 0 => .object "CheesePost$Alps"
  | 1 => .array .int
  | 2 => .array .int
  | 3 => .array .int
  | 4 => .array .int
  | 5 => .object "CheesePost$Text"
  | 6 => .int
  | 7 => .boolean
  | _ => .boolean
def qT6 : u_T := fun k => match k with
  | 0 => ("CheesePost$Meadow", "heights", "[I", true)
  | 1 => ("CheesePost$Meadow", "fences", "[I", true)
  | 2 => ("CheesePost$Meadow", "houseAt", "[I", true)
  | 3 => ("CheesePost$Meadow", "houseCells", "[I", true)
  | 4 => ("CheesePost$Meadow", "hungerAt", "[I", true)
  | 5 => ("CheesePost$Meadow", "uneaten", "[I", true)
  | 6 => ("CheesePost$Meadow", "eaten", "[I", true)
  | 7 => ("CheesePost$Meadow", "weights", "[I", true)
  | 8 => ("CheesePost$Meadow", "dairyCells", "[I", true)
  | 9 => ("CheesePost$Meadow", "houses", "I", false)
  | _ => ("CheesePost$Meadow", "dairies", "I", false)
def qty6 : Nat → FieldType := fun k => match k with
  | 0 => .array .int
  | 1 => .array .int
  | 2 => .array .int
  | 3 => .array .int
  | 4 => .array .int
  | 5 => .array .int
  | 6 => .array .int
  | 7 => .array .int
  | 8 => .array .int
  | 9 => .int
  | _ => .int
def qT7 : u_T := fun k => match k with
  | 0 => ("CheesePost$Reader", "draft", "LCheesePost$Text;", true)
  | 1 => ("CheesePost$Reader", "starts", "[I", true)
  | 2 => ("CheesePost$Reader", "sorts", "[I", true)
  | 3 => ("CheesePost$Reader", "numbers", "[I", true)
  | 4 => ("CheesePost$Reader", "tokens", "I", false)
  | 5 => ("CheesePost$Reader", "token", "I", false)
  | 6 => ("CheesePost$Reader", "parts", "I", false)
  | 7 => ("CheesePost$Reader", "brackets", "I", false)
  | _ => ("CheesePost$Reader", "ofLaws", "Z", false)
def qty7 : Nat → FieldType := fun k => match k with
  | 0 => .object "CheesePost$Text"
  | 1 => .array .int
  | 2 => .array .int
  | 3 => .array .int
  | 4 => .int
  | 5 => .int
  | 6 => .int
  | 7 => .int
  | _ => .boolean
def qT8 : u_T := fun k => match k with
  | 0 => ("CheesePost$Ride", "cellsPassed", "[I", true)
  | 1 => ("CheesePost$Ride", "cellsBroken", "[I", true)
  | 2 => ("CheesePost$Ride", "alps", "LCheesePost$Alps;", true)
  | 3 => ("CheesePost$Ride", "judge", "LCheesePost$Judge;", true)
  | 4 => ("CheesePost$Ride", "cell", "I", false)
  | 5 => ("CheesePost$Ride", "speed", "I", false)
  | 6 => ("CheesePost$Ride", "steps", "I", false)
  | 7 => ("CheesePost$Ride", "breaks", "I", false)
  | 8 => ("CheesePost$Ride", "why", "I", false)
  | 9 => ("CheesePost$Ride", "first", "I", false)
  | 10 => ("CheesePost$Ride", "second", "I", false)
  | 11 => ("CheesePost$Ride", "walled", "I", false)
  | 12 => ("CheesePost$Ride", "direction", "I", false)
  | 13 => ("CheesePost$Ride", "wheel", "I", false)
  | 14 => ("CheesePost$Ride", "brokenBelow64", "J", false)
  | _ => ("CheesePost$Ride", "brokenAbove", "J", false)
def qty8 : Nat → FieldType := fun k => match k with
  | 0 => .array .int
  | 1 => .array .int
  | 2 => .object "CheesePost$Alps"
  | 3 => .object "CheesePost$Judge"
  | 4 => .int
  | 5 => .int
  | 6 => .int
  | 7 => .int
  | 8 => .int
  | 9 => .int
  | 10 => .int
  | 11 => .int
  | 12 => .int
  | 13 => .int
  | 14 => .long
  | _ => .long
def qT9 : u_T := fun k => match k with
  | 0 => ("CheesePost$Sends", "alps", "LCheesePost$Alps;", true)
  | 1 => ("CheesePost$Sends", "ride", "LCheesePost$Ride;", true)
  | 2 => ("CheesePost$Sends", "fences", "[[I", true)
  | 3 => ("CheesePost$Sends", "gone", "[[I", true)
  | 4 => ("CheesePost$Sends", "uneaten", "[[I", true)
  | 5 => ("CheesePost$Sends", "eaten", "[[I", true)
  | 6 => ("CheesePost$Sends", "sent", "[I", true)
  | 7 => ("CheesePost$Sends", "size", "I", false)
  | _ => ("CheesePost$Sends", "top", "I", false)
def qty9 : Nat → FieldType := fun k => match k with
  | 0 => .object "CheesePost$Alps"
  | 1 => .object "CheesePost$Ride"
  | 2 => .array (.array .int)
  | 3 => .array (.array .int)
  | 4 => .array (.array .int)
  | 5 => .array (.array .int)
  | 6 => .array .int
  | 7 => .int
  | _ => .int
def qT10 : u_T := fun k => match k with
  | 0 => ("CheesePost$Text", "kinds", "[I", true)
  | 1 => ("CheesePost$Text", "sums", "[I", true)
  | 2 => ("CheesePost$Text", "tests", "[I", true)
  | 3 => ("CheesePost$Text", "times", "[I", true)
  | 4 => ("CheesePost$Text", "code", "[I", true)
  | 5 => ("CheesePost$Text", "size", "I", false)
  | _ => ("CheesePost$Text", "length", "I", false)
def qty10 : Nat → FieldType := fun k => match k with
  | 0 => .array .int
  | 1 => .array .int
  | 2 => .array .int
  | 3 => .array .int
  | 4 => .array .int
  | 5 => .int
  | _ => .int
def qT11 : u_T := fun k => match k with
  | 0 => ("CheesePostModel", "status", "I", false)
  | 1 => ("CheesePostModel", "refused", "[I", true)
  | 2 => ("CheesePostModel", "kept", "[I", true)
  | 3 => ("CheesePostModel", "images", "[I", true)
  | 4 => ("CheesePostModel", "ahead", "[I", true)
  | 5 => ("CheesePostModel", "hasImage", "[Z", true)
  | 6 => ("CheesePostModel", "crumbs0", "I", false)
  | 7 => ("CheesePostModel", "words", "[B", true)
  | 8 => ("CheesePostModel", "firstWord", "I", false)
  | 9 => ("CheesePostModel", "lastWord", "I", false)
  | 10 => ("CheesePostModel", "isOrders", "Z", false)
  | 11 => ("CheesePostModel", "tape", "[B", true)
  | 12 => ("CheesePostModel", "five", "[I", true)
  | 13 => ("CheesePostModel", "taped", "I", false)
  | 14 => ("CheesePostModel", "fault", "I", false)
  | 15 => ("CheesePostModel", "code", "[I", true)
  | 16 => ("CheesePostModel", "value", "[I", true)
  | 17 => ("CheesePostModel", "placed", "[I", true)
  | 18 => ("CheesePostModel", "tokens", "I", false)
  | 19 => ("CheesePostModel", "token", "I", false)
  | 20 => ("CheesePostModel", "leaves", "I", false)
  | 21 => ("CheesePostModel", "bad", "I", false)
  | 22 => ("CheesePostModel", "go", "I", false)
  | 23 => ("CheesePostModel", "goEnd", "I", false)
  | 24 => ("CheesePostModel", "broken", "Z", false)
  | 25 => ("CheesePostModel", "asked", "[I", true)
  | 26 => ("CheesePostModel", "isBroken", "[Z", true)
  | 27 => ("CheesePostModel", "brokenAhead", "[Z", true)
  | 28 => ("CheesePostModel", "brokenAt", "[I", true)
  | 29 => ("CheesePostModel", "trail", "[I", true)
  | 30 => ("CheesePostModel", "couldSlip", "[Z", true)
  | 31 => ("CheesePostModel", "pos", "I", false)
  | 32 => ("CheesePostModel", "dir", "I", false)
  | 33 => ("CheesePostModel", "speed0", "I", false)
  | 34 => ("CheesePostModel", "steps", "I", false)
  | 35 => ("CheesePostModel", "why", "I", false)
  | 36 => ("CheesePostModel", "brokenMany", "I", false)
  | 37 => ("CheesePostModel", "tries0", "I", false)
  | 38 => ("CheesePostModel", "wallAt", "I", false)
  | 39 => ("CheesePostModel", "open", "[I", true)
  | 40 => ("CheesePostModel", "openMany", "I", false)
  | 41 => ("CheesePostModel", "endMany", "[I", true)
  | 42 => ("CheesePostModel", "firstSlips", "[Z", true)
  | 43 => ("CheesePostModel", "secondSlips", "[Z", true)
  | 44 => ("CheesePostModel", "rowMany", "I", false)
  | 45 => ("CheesePostModel", "left", "[I", true)
  | 46 => ("CheesePostModel", "leftAhead", "[I", true)
  | 47 => ("CheesePostModel", "undoMany", "I", false)
  | 48 => ("CheesePostModel", "sentCame", "Z", false)
  | 49 => ("CheesePostModel", "fares", "[I", true)
  | 50 => ("CheesePostModel", "worths", "[I", true)
  | 51 => ("CheesePostModel", "spent", "[I", true)
  | 52 => ("CheesePostModel", "onRinds", "[I", true)
  | 53 => ("CheesePostModel", "ways", "[I", true)
  | 54 => ("CheesePostModel", "tours", "[I", true)
  | 55 => ("CheesePostModel", "fewest", "[I", true)
  | 56 => ("CheesePostModel", "together", "[I", true)
  | 57 => ("CheesePostModel", "stopped0", "I", false)
  | 58 => ("CheesePostModel", "orderDone", "I", false)
  | 59 => ("CheesePostModel", "orderCame", "I", false)
  | 60 => ("CheesePostModel", "orderLast", "I", false)
  | 61 => ("CheesePostModel", "orderAt", "I", false)
  | 62 => ("CheesePostModel", "sums", "[J", true)
  | 63 => ("CheesePostModel", "sumsAre", "Z", false)
  | 64 => ("CheesePostModel", "testIs", "Z", false)
  | 65 => ("CheesePostModel", "timesOf", "I", false)
  | 66 => ("CheesePostModel", "head", "I", false)
  | 67 => ("CheesePostModel", "drawnEnds", "[I", true)
  | 68 => ("CheesePostModel", "isDrawn", "Z", false)
  | _ => ("CheesePostModel", "latest", "I", false)
def qty11 : Nat → FieldType := fun k => match k with
  | 0 => .int
  | 1 => .array .int
  | 2 => .array .int
  | 3 => .array .int
  | 4 => .array .int
  | 5 => .array .boolean
  | 6 => .int
  | 7 => .array .byte
  | 8 => .int
  | 9 => .int
  | 10 => .boolean
  | 11 => .array .byte
  | 12 => .array .int
  | 13 => .int
  | 14 => .int
  | 15 => .array .int
  | 16 => .array .int
  | 17 => .array .int
  | 18 => .int
  | 19 => .int
  | 20 => .int
  | 21 => .int
  | 22 => .int
  | 23 => .int
  | 24 => .boolean
  | 25 => .array .int
  | 26 => .array .boolean
  | 27 => .array .boolean
  | 28 => .array .int
  | 29 => .array .int
  | 30 => .array .boolean
  | 31 => .int
  | 32 => .int
  | 33 => .int
  | 34 => .int
  | 35 => .int
  | 36 => .int
  | 37 => .int
  | 38 => .int
  | 39 => .array .int
  | 40 => .int
  | 41 => .array .int
  | 42 => .array .boolean
  | 43 => .array .boolean
  | 44 => .int
  | 45 => .array .int
  | 46 => .array .int
  | 47 => .int
  | 48 => .boolean
  | 49 => .array .int
  | 50 => .array .int
  | 51 => .array .int
  | 52 => .array .int
  | 53 => .array .int
  | 54 => .array .int
  | 55 => .array .int
  | 56 => .array .int
  | 57 => .int
  | 58 => .int
  | 59 => .int
  | 60 => .int
  | 61 => .int
  | 62 => .array .long
  | 63 => .boolean
  | 64 => .boolean
  | 65 => .int
  | 66 => .int
  | 67 => .array .int
  | 68 => .boolean
  | _ => .int
abbrev qcl : List vw_C := [("CheesePost", qT0, 19), ("CheesePost$Alps", qT1, 15), ("CheesePost$Carrier", qT2, 6), ("CheesePost$Casts", qT3, 17), ("CheesePost$Clerk", qT4, 11), ("CheesePost$Judge", qT5, 9), ("CheesePost$Meadow", qT6, 11), ("CheesePost$Reader", qT7, 9), ("CheesePost$Ride", qT8, 16), ("CheesePost$Sends", qT9, 9), ("CheesePost$Text", qT10, 7), ("CheesePostModel", qT11, 70)]
def qty (ci k : Nat) : FieldType := match ci with
  | 0 => qty0 k
  | 1 => qty1 k
  | 2 => qty2 k
  | 3 => qty3 k
  | 4 => qty4 k
  | 5 => qty5 k
  | 6 => qty6 k
  | 7 => qty7 k
  | 8 => qty8 k
  | 9 => qty9 k
  | 10 => qty10 k
  | _ => qty11 k
theorem qin0 : ∀ w ∈ u_ws "CheesePost" qT0 19, w ∈ qtb := qmems [708, 710, 712, 714, 716, 718, 720, 722, 724, 726, 728, 730, 732, 734, 736, 738, 740, 742, 744] (by decide +kernel) (by decide +kernel)
theorem qnm0 : ∀ a, a < 19 → ∀ b, b < 19 → a ≠ b → (qT0 a).2.1 ≠ (qT0 b).2.1 := by decide +kernel
theorem qtyok0 : ∀ k, k < 19 → parseFieldDescriptor (qT0 k).2.2.1 = some (qty0 k) := by decide +kernel
theorem qinst0 : Cond.instantiable "CheesePost" 19 ∈ qtb := qmem (i := 142) (by decide +kernel) rfl
theorem qini0 : Cond.initialized "CheesePost" ∈ qtb := qmem (i := 122) (by decide +kernel) rfl
theorem qin1 : ∀ w ∈ u_ws "CheesePost$Alps" qT1 15, w ∈ qtb := qmems [285, 287, 289, 291, 293, 295, 297, 299, 301, 303, 305, 307, 309, 311, 313] (by decide +kernel) (by decide +kernel)
theorem qnm1 : ∀ a, a < 15 → ∀ b, b < 15 → a ≠ b → (qT1 a).2.1 ≠ (qT1 b).2.1 := by decide +kernel
theorem qtyok1 : ∀ k, k < 15 → parseFieldDescriptor (qT1 k).2.2.1 = some (qty1 k) := by decide +kernel
theorem qinst1 : Cond.instantiable "CheesePost$Alps" 15 ∈ qtb := qmem (i := 150) (by decide +kernel) rfl
theorem qini1 : Cond.initialized "CheesePost$Alps" ∈ qtb := qmem (i := 123) (by decide +kernel) rfl
theorem qin2 : ∀ w ∈ u_ws "CheesePost$Carrier" qT2 6, w ∈ qtb := qmems [673, 675, 677, 679, 681, 683] (by decide +kernel) (by decide +kernel)
theorem qnm2 : ∀ a, a < 6 → ∀ b, b < 6 → a ≠ b → (qT2 a).2.1 ≠ (qT2 b).2.1 := by decide +kernel
theorem qtyok2 : ∀ k, k < 6 → parseFieldDescriptor (qT2 k).2.2.1 = some (qty2 k) := by decide +kernel
theorem qinst2 : Cond.instantiable "CheesePost$Carrier" 6 ∈ qtb := qmem (i := 661) (by decide +kernel) rfl
theorem qini2 : Cond.initialized "CheesePost$Carrier" ∈ qtb := qmem (i := 132) (by decide +kernel) rfl
theorem qin3 : ∀ w ∈ u_ws "CheesePost$Casts" qT3 17, w ∈ qtb := qmems [467, 469, 471, 473, 475, 477, 479, 481, 483, 485, 487, 489, 491, 493, 495, 497, 499] (by decide +kernel) (by decide +kernel)
theorem qnm3 : ∀ a, a < 17 → ∀ b, b < 17 → a ≠ b → (qT3 a).2.1 ≠ (qT3 b).2.1 := by decide +kernel
theorem qtyok3 : ∀ k, k < 17 → parseFieldDescriptor (qT3 k).2.2.1 = some (qty3 k) := by decide +kernel
theorem qinst3 : Cond.instantiable "CheesePost$Casts" 17 ∈ qtb := qmem (i := 428) (by decide +kernel) rfl
theorem qini3 : Cond.initialized "CheesePost$Casts" ∈ qtb := qmem (i := 127) (by decide +kernel) rfl
theorem qin4 : ∀ w ∈ u_ws "CheesePost$Clerk" qT4 11, w ∈ qtb := qmems [637, 639, 641, 643, 645, 647, 649, 651, 653, 655, 657] (by decide +kernel) (by decide +kernel)
theorem qnm4 : ∀ a, a < 11 → ∀ b, b < 11 → a ≠ b → (qT4 a).2.1 ≠ (qT4 b).2.1 := by decide +kernel
theorem qtyok4 : ∀ k, k < 11 → parseFieldDescriptor (qT4 k).2.2.1 = some (qty4 k) := by decide +kernel
theorem qinst4 : Cond.instantiable "CheesePost$Clerk" 11 ∈ qtb := qmem (i := 618) (by decide +kernel) rfl
theorem qini4 : Cond.initialized "CheesePost$Clerk" ∈ qtb := qmem (i := 131) (by decide +kernel) rfl
theorem qin5 : ∀ w ∈ u_ws "CheesePost$Judge" qT5 9, w ∈ qtb := qmems [333, 335, 337, 339, 341, 343, 345, 347, 349] (by decide +kernel) (by decide +kernel)
theorem qnm5 : ∀ a, a < 9 → ∀ b, b < 9 → a ≠ b → (qT5 a).2.1 ≠ (qT5 b).2.1 := by decide +kernel
theorem qtyok5 : ∀ k, k < 9 → parseFieldDescriptor (qT5 k).2.2.1 = some (qty5 k) := by decide +kernel
theorem qinst5 : Cond.instantiable "CheesePost$Judge" 9 ∈ qtb := qmem (i := 318) (by decide +kernel) rfl
theorem qini5 : Cond.initialized "CheesePost$Judge" ∈ qtb := qmem (i := 125) (by decide +kernel) rfl
theorem qin6 : ∀ w ∈ u_ws "CheesePost$Meadow" qT6 11, w ∈ qtb := qmems [202, 204, 206, 208, 210, 212, 214, 216, 218, 220, 222] (by decide +kernel) (by decide +kernel)
theorem qnm6 : ∀ a, a < 11 → ∀ b, b < 11 → a ≠ b → (qT6 a).2.1 ≠ (qT6 b).2.1 := by decide +kernel
theorem qtyok6 : ∀ k, k < 11 → parseFieldDescriptor (qT6 k).2.2.1 = some (qty6 k) := by decide +kernel
theorem qinst6 : Cond.instantiable "CheesePost$Meadow" 11 ∈ qtb := qmem (i := 156) (by decide +kernel) rfl
theorem qini6 : Cond.initialized "CheesePost$Meadow" ∈ qtb := qmem (i := 124) (by decide +kernel) rfl
theorem qin7 : ∀ w ∈ u_ws "CheesePost$Reader" qT7 9, w ∈ qtb := qmems [598, 600, 602, 604, 606, 608, 610, 612, 614] (by decide +kernel) (by decide +kernel)
theorem qnm7 : ∀ a, a < 9 → ∀ b, b < 9 → a ≠ b → (qT7 a).2.1 ≠ (qT7 b).2.1 := by decide +kernel
theorem qtyok7 : ∀ k, k < 9 → parseFieldDescriptor (qT7 k).2.2.1 = some (qty7 k) := by decide +kernel
theorem qinst7 : Cond.instantiable "CheesePost$Reader" 9 ∈ qtb := qmem (i := 541) (by decide +kernel) rfl
theorem qini7 : Cond.initialized "CheesePost$Reader" ∈ qtb := qmem (i := 129) (by decide +kernel) rfl
theorem qin8 : ∀ w ∈ u_ws "CheesePost$Ride" qT8 16, w ∈ qtb := qmems [394, 396, 398, 400, 402, 404, 406, 408, 410, 412, 414, 416, 418, 420, 422, 424] (by decide +kernel) (by decide +kernel)
theorem qnm8 : ∀ a, a < 16 → ∀ b, b < 16 → a ≠ b → (qT8 a).2.1 ≠ (qT8 b).2.1 := by decide +kernel
theorem qtyok8 : ∀ k, k < 16 → parseFieldDescriptor (qT8 k).2.2.1 = some (qty8 k) := by decide +kernel
theorem qinst8 : Cond.instantiable "CheesePost$Ride" 16 ∈ qtb := qmem (i := 354) (by decide +kernel) rfl
theorem qini8 : Cond.initialized "CheesePost$Ride" ∈ qtb := qmem (i := 126) (by decide +kernel) rfl
theorem qin9 : ∀ w ∈ u_ws "CheesePost$Sends" qT9 9, w ∈ qtb := qmems [521, 523, 525, 527, 529, 531, 533, 535, 537] (by decide +kernel) (by decide +kernel)
theorem qnm9 : ∀ a, a < 9 → ∀ b, b < 9 → a ≠ b → (qT9 a).2.1 ≠ (qT9 b).2.1 := by decide +kernel
theorem qtyok9 : ∀ k, k < 9 → parseFieldDescriptor (qT9 k).2.2.1 = some (qty9 k) := by decide +kernel
theorem qinst9 : Cond.instantiable "CheesePost$Sends" 9 ∈ qtb := qmem (i := 503) (by decide +kernel) rfl
theorem qini9 : Cond.initialized "CheesePost$Sends" ∈ qtb := qmem (i := 128) (by decide +kernel) rfl
theorem qin10 : ∀ w ∈ u_ws "CheesePost$Text" qT10 7, w ∈ qtb := qmems [573, 575, 577, 579, 581, 583, 585] (by decide +kernel) (by decide +kernel)
theorem qnm10 : ∀ a, a < 7 → ∀ b, b < 7 → a ≠ b → (qT10 a).2.1 ≠ (qT10 b).2.1 := by decide +kernel
theorem qtyok10 : ∀ k, k < 7 → parseFieldDescriptor (qT10 k).2.2.1 = some (qty10 k) := by decide +kernel
theorem qinst10 : Cond.instantiable "CheesePost$Text" 7 ∈ qtb := qmem (i := 547) (by decide +kernel) rfl
theorem qini10 : Cond.initialized "CheesePost$Text" ∈ qtb := qmem (i := 130) (by decide +kernel) rfl
theorem qin11 : ∀ w ∈ u_ws "CheesePostModel" qT11 70, w ∈ qtb := qmems [1568, 1570, 1572, 1574, 1576, 1578, 1580, 1582, 1584, 1586, 1588, 1590, 1592, 1594, 1596, 1598, 1600, 1602, 1604, 1606, 1608, 1610, 1612, 1614, 1616, 1618, 1620, 1622, 1624, 1626, 1628, 1630, 1632, 1634, 1636, 1638, 1640, 1642, 1644, 1646, 1648, 1650, 1652, 1654, 1656, 1658, 1660, 1662, 1664, 1666, 1668, 1670, 1672, 1674, 1676, 1678, 1680, 1682, 1684, 1686, 1688, 1690, 1692, 1694, 1696, 1698, 1700, 1702, 1704, 1706] (by decide +kernel) (by decide +kernel)
theorem qnm11 : ∀ a, a < 70 → ∀ b, b < 70 → a ≠ b → (qT11 a).2.1 ≠ (qT11 b).2.1 := by decide +kernel
theorem qtyok11 : ∀ k, k < 70 → parseFieldDescriptor (qT11 k).2.2.1 = some (qty11 k) := by decide +kernel
theorem qinst11 : Cond.instantiable "CheesePostModel" 70 ∈ qtb := qmem (i := 1493) (by decide +kernel) rfl
theorem qini11 : Cond.initialized "CheesePostModel" ∈ qtb := qmem (i := 134) (by decide +kernel) rfl
/-- all that is asked of a class of the table -/
theorem qclok (ci : Nat) (C : String) (T : u_T) (N : Nat) (h : qcl[ci]? = some (C, T, N)) : (∀ w ∈ u_ws C T N, w ∈ qtb) ∧ (∀ a, a < N → ∀ b, b < N → a ≠ b → (T a).2.1 ≠ (T b).2.1) ∧ (∀ k, k < N → parseFieldDescriptor (T k).2.2.1 = some (qty ci k)) ∧ Cond.instantiable C N ∈ qtb ∧ Cond.initialized C ∈ qtb := by
  match ci, h with
  | 0, h => cases h; exact ⟨qin0, qnm0, qtyok0, qinst0, qini0⟩
  | 1, h => cases h; exact ⟨qin1, qnm1, qtyok1, qinst1, qini1⟩
  | 2, h => cases h; exact ⟨qin2, qnm2, qtyok2, qinst2, qini2⟩
  | 3, h => cases h; exact ⟨qin3, qnm3, qtyok3, qinst3, qini3⟩
  | 4, h => cases h; exact ⟨qin4, qnm4, qtyok4, qinst4, qini4⟩
  | 5, h => cases h; exact ⟨qin5, qnm5, qtyok5, qinst5, qini5⟩
  | 6, h => cases h; exact ⟨qin6, qnm6, qtyok6, qinst6, qini6⟩
  | 7, h => cases h; exact ⟨qin7, qnm7, qtyok7, qinst7, qini7⟩
  | 8, h => cases h; exact ⟨qin8, qnm8, qtyok8, qinst8, qini8⟩
  | 9, h => cases h; exact ⟨qin9, qnm9, qtyok9, qinst9, qini9⟩
  | 10, h => cases h; exact ⟨qin10, qnm10, qtyok10, qinst10, qini10⟩
  | 11, h => cases h; exact ⟨qin11, qnm11, qtyok11, qinst11, qini11⟩
  | _ + 12, h => exact absurd h (by simp)
