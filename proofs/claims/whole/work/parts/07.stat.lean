/-! ===== classes, links, methods (printed by wip/tools/gen3.py) ===== -/
def ac_T0 : u_T := fun k => match k with
  | 0 => ("MoodSlips$Denial", "row", "[I", true)
  | 1 => ("MoodSlips$Denial", "size", "I", false)
  | 2 => ("MoodSlips$Denial", "met", "[I", true)
  | 3 => ("MoodSlips$Denial", "masks", "[I", true)
  | 4 => ("MoodSlips$Denial", "maskCount", "I", false)
  | 5 => ("MoodSlips$Denial", "fewest", "[B", false)
  | 6 => ("MoodSlips$Denial", "trial", "[I", true)
  | _ => ("MoodSlips$Denial", "trialSize", "I", false)
def ac_ty0 : Nat → FieldType := fun k => match k with
  | 0 => .array (.int)
  | 1 => .int
  | 2 => .array (.int)
  | 3 => .array (.int)
  | 4 => .int
  | 5 => .array (.byte)
  | 6 => .array (.int)
  | _ => .int
def ac_T1 : u_T := fun k => match k with
  | 0 => ("MoodSlips$Derivation", "known", "Z", false)
  | 1 => ("MoodSlips$Derivation", "rounds", "[I", true)
  | 2 => ("MoodSlips$Derivation", "majors", "[I", true)
  | 3 => ("MoodSlips$Derivation", "minors", "[I", true)
  | 4 => ("MoodSlips$Derivation", "ahead", "[I", true)
  | 5 => ("MoodSlips$Derivation", "total", "I", false)
  | _ => ("MoodSlips$Derivation", "lastRound", "I", false)
def ac_ty1 : Nat → FieldType := fun k => match k with
  | 0 => .boolean
  | 1 => .array (.int)
  | 2 => .array (.int)
  | 3 => .array (.int)
  | 4 => .array (.int)
  | 5 => .int
  | _ => .int
def ac_T2 : u_T := fun k => match k with
  | 0 => ("MoodSlips$Desk", "slips", "[LMoodSlips$Sentence;", true)
  | 1 => ("MoodSlips$Desk", "slipCount", "I", false)
  | 2 => ("MoodSlips$Desk", "asked", "LMoodSlips$Sentence;", false)
  | 3 => ("MoodSlips$Desk", "told", "Z", false)
  | 4 => ("MoodSlips$Desk", "bounds", "[LMoodSlips$Sentence;", true)
  | 5 => ("MoodSlips$Desk", "boundSo", "[Z", true)
  | 6 => ("MoodSlips$Desk", "boundCount", "I", false)
  | _ => ("MoodSlips$Desk", "kept", "Z", false)
def ac_ty2 : Nat → FieldType := fun k => match k with
  | 0 => .array (.object "MoodSlips$Sentence")
  | 1 => .int
  | 2 => .object "MoodSlips$Sentence"
  | 3 => .boolean
  | 4 => .array (.object "MoodSlips$Sentence")
  | 5 => .array (.boolean)
  | 6 => .int
  | _ => .boolean
def ac_T3 : u_T := fun k => match k with
  | 0 => ("MoodSlips$Fewest", "known", "Z", false)
  | 1 => ("MoodSlips$Fewest", "size", "I", false)
  | 2 => ("MoodSlips$Fewest", "ways", "I", false)
  | _ => ("MoodSlips$Fewest", "lowest", "I", false)
def ac_ty3 : Nat → FieldType := fun k => match k with
  | 0 => .boolean
  | 1 => .int
  | 2 => .int
  | _ => .int
def ac_T4 : u_T := fun k => match k with
  | 0 => ("MoodSlips$Quarrels", "known", "Z", false)
  | 1 => ("MoodSlips$Quarrels", "marks", "[B", false)
  | 2 => ("MoodSlips$Quarrels", "heaps", "I", false)
  | 3 => ("MoodSlips$Quarrels", "leastCount", "I", false)
  | _ => ("MoodSlips$Quarrels", "leftOut", "LMoodSlips$Fewest;", true)
def ac_ty4 : Nat → FieldType := fun k => match k with
  | 0 => .boolean
  | 1 => .array (.byte)
  | 2 => .int
  | 3 => .int
  | _ => .object "MoodSlips$Fewest"
def ac_T5 : u_T := fun k => match k with
  | 0 => ("MoodSlips$Reader", "tape", "[B", true)
  | 1 => ("MoodSlips$Reader", "size", "I", false)
  | 2 => ("MoodSlips$Reader", "faultPlace", "I", false)
  | 3 => ("MoodSlips$Reader", "from", "I", false)
  | 4 => ("MoodSlips$Reader", "stop", "I", false)
  | 5 => ("MoodSlips$Reader", "form", "I", false)
  | 6 => ("MoodSlips$Reader", "bearer", "I", false)
  | 7 => ("MoodSlips$Reader", "isTurned", "Z", false)
  | 8 => ("MoodSlips$Reader", "first", "I", false)
  | 9 => ("MoodSlips$Reader", "second", "I", false)
  | 10 => ("MoodSlips$Reader", "kindCount", "I", false)
  | 11 => ("MoodSlips$Reader", "tree", "LMoodSlips$Tree;", true)
  | _ => ("MoodSlips$Reader", "writer", "LMoodSlips$Writer;", true)
def ac_ty5 : Nat → FieldType := fun k => match k with
  | 0 => .array (.byte)
  | 1 => .int
  | 2 => .int
  | 3 => .int
  | 4 => .int
  | 5 => .int
  | 6 => .int
  | 7 => .boolean
  | 8 => .int
  | 9 => .int
  | 10 => .int
  | 11 => .object "MoodSlips$Tree"
  | _ => .object "MoodSlips$Writer"
def ac_T6 : u_T := fun k => match k with
  | 0 => ("MoodSlips$Sentence", "says", "I", false)
  | 1 => ("MoodSlips$Sentence", "bearer", "I", false)
  | 2 => ("MoodSlips$Sentence", "hasSubject", "Z", false)
  | 3 => ("MoodSlips$Sentence", "mood", "I", false)
  | 4 => ("MoodSlips$Sentence", "subjectKind", "I", false)
  | 5 => ("MoodSlips$Sentence", "predicateKind", "I", false)
  | 6 => ("MoodSlips$Sentence", "set", "[J", true)
  | 7 => ("MoodSlips$Sentence", "subject", "[J", true)
  | _ => ("MoodSlips$Sentence", "text", "[B", true)
def ac_ty6 : Nat → FieldType := fun k => match k with
  | 0 => .int
  | 1 => .int
  | 2 => .boolean
  | 3 => .int
  | 4 => .int
  | 5 => .int
  | 6 => .array (.long)
  | 7 => .array (.long)
  | _ => .array (.byte)
def ac_T7 : u_T := fun k => match k with
  | 0 => ("MoodSlips$Syllogism", "majorMood", "I", false)
  | 1 => ("MoodSlips$Syllogism", "minorMood", "I", false)
  | 2 => ("MoodSlips$Syllogism", "figure", "I", false)
  | 3 => ("MoodSlips$Syllogism", "middle", "I", false)
  | 4 => ("MoodSlips$Syllogism", "subject", "I", false)
  | 5 => ("MoodSlips$Syllogism", "predicate", "I", false)
  | 6 => ("MoodSlips$Syllogism", "conclusions", "[B", true)
  | 7 => ("MoodSlips$Syllogism", "isLearned", "Z", false)
  | 8 => ("MoodSlips$Syllogism", "learnedTold", "Z", false)
  | 9 => ("MoodSlips$Syllogism", "premises", "LMoodSlips$Theory;", true)
  | _ => ("MoodSlips$Syllogism", "claim", "LMoodSlips$Sentence;", true)
def ac_ty7 : Nat → FieldType := fun k => match k with
  | 0 => .int
  | 1 => .int
  | 2 => .int
  | 3 => .int
  | 4 => .int
  | 5 => .int
  | 6 => .array (.byte)
  | 7 => .boolean
  | 8 => .boolean
  | 9 => .object "MoodSlips$Theory"
  | _ => .object "MoodSlips$Sentence"
def ac_T8 : u_T := fun k => match k with
  | 0 => ("MoodSlips$Theory", "free", "[J", true)
  | 1 => ("MoodSlips$Theory", "things", "[J", true)
  | 2 => ("MoodSlips$Theory", "thingCount", "I", false)
  | 3 => ("MoodSlips$Theory", "places", "[J", true)
  | _ => ("MoodSlips$Theory", "placed", "I", false)
def ac_ty8 : Nat → FieldType := fun k => match k with
  | 0 => .array (.long)
  | 1 => .array (.long)
  | 2 => .int
  | 3 => .array (.long)
  | _ => .int
def ac_T9 : u_T := fun k => match k with
  | 0 => ("MoodSlips$Tree", "sorts", "[I", true)
  | 1 => ("MoodSlips$Tree", "lefts", "[I", true)
  | 2 => ("MoodSlips$Tree", "rights", "[I", true)
  | 3 => ("MoodSlips$Tree", "nots", "[I", true)
  | 4 => ("MoodSlips$Tree", "sets", "[J", true)
  | _ => ("MoodSlips$Tree", "count", "I", false)
def ac_ty9 : Nat → FieldType := fun k => match k with
  | 0 => .array (.int)
  | 1 => .array (.int)
  | 2 => .array (.int)
  | 3 => .array (.int)
  | 4 => .array (.long)
  | _ => .int
def ac_T10 : u_T := fun k => match k with
  | 0 => ("MoodSlips$Writer", "signs", "[B", true)
  | _ => ("MoodSlips$Writer", "length", "I", false)
def ac_ty10 : Nat → FieldType := fun k => match k with
  | 0 => .array (.byte)
  | _ => .int
def ac_T11 : u_T := fun k => match k with
  | 0 => ("MoodSlips", "reader", "LMoodSlips$Reader;", true)
  | 1 => ("MoodSlips", "desk", "LMoodSlips$Desk;", true)
  | 2 => ("MoodSlips", "images", "[LMoodSlips$Desk;", true)
  | 3 => ("MoodSlips", "theory", "LMoodSlips$Theory;", true)
  | 4 => ("MoodSlips", "simple", "LMoodSlips$Sentence;", true)
  | 5 => ("MoodSlips", "denial", "LMoodSlips$Denial;", true)
  | 6 => ("MoodSlips", "quarrelling", "LMoodSlips$Quarrels;", true)
  | 7 => ("MoodSlips", "sufficing", "LMoodSlips$Fewest;", true)
  | 8 => ("MoodSlips", "syllogism", "LMoodSlips$Syllogism;", true)
  | 9 => ("MoodSlips", "derivation", "LMoodSlips$Derivation;", true)
  | 10 => ("MoodSlips", "riddleNumbers", "[I", true)
  | 11 => ("MoodSlips", "riddleSize", "I", false)
  | 12 => ("MoodSlips", "refusals", "[I", true)
  | _ => ("MoodSlips", "latestRefusal", "I", false)
def ac_ty11 : Nat → FieldType := fun k => match k with
  | 0 => .object "MoodSlips$Reader"
  | 1 => .object "MoodSlips$Desk"
  | 2 => .array (.object "MoodSlips$Desk")
  | 3 => .object "MoodSlips$Theory"
  | 4 => .object "MoodSlips$Sentence"
  | 5 => .object "MoodSlips$Denial"
  | 6 => .object "MoodSlips$Quarrels"
  | 7 => .object "MoodSlips$Fewest"
  | 8 => .object "MoodSlips$Syllogism"
  | 9 => .object "MoodSlips$Derivation"
  | 10 => .array (.int)
  | 11 => .int
  | 12 => .array (.int)
  | _ => .int
def ac_T12 : u_T := fun k => match k with
  | 0 => ("MoodSlipsModel", "status", "I", false)
  | 1 => ("MoodSlipsModel", "refused", "[I", true)
  | 2 => ("MoodSlipsModel", "kept", "[I", true)
  | 3 => ("MoodSlipsModel", "images", "[I", true)
  | 4 => ("MoodSlipsModel", "hasImage", "[Z", true)
  | 5 => ("MoodSlipsModel", "words", "[B", true)
  | 6 => ("MoodSlipsModel", "tape", "[B", true)
  | 7 => ("MoodSlipsModel", "five", "[I", true)
  | 8 => ("MoodSlipsModel", "taped", "I", false)
  | 9 => ("MoodSlipsModel", "fault", "I", false)
  | 10 => ("MoodSlipsModel", "code", "[I", true)
  | 11 => ("MoodSlipsModel", "value", "[I", true)
  | 12 => ("MoodSlipsModel", "placed", "[I", true)
  | 13 => ("MoodSlipsModel", "tokens", "I", false)
  | 14 => ("MoodSlipsModel", "token", "I", false)
  | 15 => ("MoodSlipsModel", "leaves", "I", false)
  | 16 => ("MoodSlipsModel", "bad", "I", false)
  | 17 => ("MoodSlipsModel", "made", "[I", true)
  | 18 => ("MoodSlipsModel", "madeMany", "I", false)
  | 19 => ("MoodSlipsModel", "kinds", "I", false)
  | 20 => ("MoodSlipsModel", "form", "I", false)
  | 21 => ("MoodSlipsModel", "flag", "I", false)
  | 22 => ("MoodSlipsModel", "name", "I", false)
  | 23 => ("MoodSlipsModel", "sizeOne", "I", false)
  | 24 => ("MoodSlipsModel", "pile", "[Z", true)
  | 25 => ("MoodSlipsModel", "written", "[B", true)
  | 26 => ("MoodSlipsModel", "starts", "[I", true)
  | 27 => ("MoodSlipsModel", "writtenMany", "I", false)
  | 28 => ("MoodSlipsModel", "barred", "[I", true)
  | 29 => ("MoodSlipsModel", "there", "[I", true)
  | 30 => ("MoodSlipsModel", "named", "[I", true)
  | 31 => ("MoodSlipsModel", "thereMany", "I", false)
  | 32 => ("MoodSlipsModel", "besides", "[I", true)
  | 33 => ("MoodSlipsModel", "meets", "[I", true)
  | 34 => ("MoodSlipsModel", "regions", "[I", true)
  | 35 => ("MoodSlipsModel", "world", "[I", true)
  | 36 => ("MoodSlipsModel", "bestWorld", "[I", true)
  | 37 => ("MoodSlipsModel", "regionMany", "I", false)
  | 38 => ("MoodSlipsModel", "worldMany", "I", false)
  | 39 => ("MoodSlipsModel", "needs", "I", false)
  | 40 => ("MoodSlipsModel", "rounds", "[I", true)
  | 41 => ("MoodSlipsModel", "table", "[I", true)
  | 42 => ("MoodSlipsModel", "riddle", "[I", true)
  | 43 => ("MoodSlipsModel", "riddleMany", "I", false)
  | 44 => ("MoodSlipsModel", "riddleAll", "I", false)
  | 45 => ("MoodSlipsModel", "riddleNo", "I", false)
  | _ => ("MoodSlipsModel", "latest", "I", false)
def ac_ty12 : Nat → FieldType := fun k => match k with
  | 0 => .int
  | 1 => .array (.int)
  | 2 => .array (.int)
  | 3 => .array (.int)
  | 4 => .array (.boolean)
  | 5 => .array (.byte)
  | 6 => .array (.byte)
  | 7 => .array (.int)
  | 8 => .int
  | 9 => .int
  | 10 => .array (.int)
  | 11 => .array (.int)
  | 12 => .array (.int)
  | 13 => .int
  | 14 => .int
  | 15 => .int
  | 16 => .int
  | 17 => .array (.int)
  | 18 => .int
  | 19 => .int
  | 20 => .int
  | 21 => .int
  | 22 => .int
  | 23 => .int
  | 24 => .array (.boolean)
  | 25 => .array (.byte)
  | 26 => .array (.int)
  | 27 => .int
  | 28 => .array (.int)
  | 29 => .array (.int)
  | 30 => .array (.int)
  | 31 => .int
  | 32 => .array (.int)
  | 33 => .array (.int)
  | 34 => .array (.int)
  | 35 => .array (.int)
  | 36 => .array (.int)
  | 37 => .int
  | 38 => .int
  | 39 => .int
  | 40 => .array (.int)
  | 41 => .array (.int)
  | 42 => .array (.int)
  | 43 => .int
  | 44 => .int
  | 45 => .int
  | _ => .int
def am_cls : List vw_C := [("MoodSlips$Denial", ac_T0, 8), ("MoodSlips$Derivation", ac_T1, 7), ("MoodSlips$Desk", ac_T2, 8), ("MoodSlips$Fewest", ac_T3, 4), ("MoodSlips$Quarrels", ac_T4, 5), ("MoodSlips$Reader", ac_T5, 13), ("MoodSlips$Sentence", ac_T6, 9), ("MoodSlips$Syllogism", ac_T7, 11), ("MoodSlips$Theory", ac_T8, 5), ("MoodSlips$Tree", ac_T9, 6), ("MoodSlips$Writer", ac_T10, 2), ("MoodSlips", ac_T11, 14), ("MoodSlipsModel", ac_T12, 47)]
def am_tys : List (Nat → FieldType) := [ac_ty0, ac_ty1, ac_ty2, ac_ty3, ac_ty4, ac_ty5, ac_ty6, ac_ty7, ac_ty8, ac_ty9, ac_ty10, ac_ty11, ac_ty12]
def am_ty (c k : Nat) : FieldType := (am_tys.getD c (fun _ => .int)) k
def am_cl3 (c : Nat) : vw_C := am_cls.getD c ("", ac_T0, 0)
def am_ownl : List String := ["MoodSlips$Denial", "MoodSlips$Derivation", "MoodSlips$Desk", "MoodSlips$Fewest", "MoodSlips$Quarrels", "MoodSlips$Reader", "MoodSlips$Sentence", "MoodSlips$Syllogism", "MoodSlips$Theory", "MoodSlips$Tree", "MoodSlips$Writer", "MoodSlips", "MoodSlipsModel", "MoodSlipsLaw", "java/lang/Integer", "java/lang/Long", "java/util/Arrays"]
def am_own (o : Nat) : String := am_ownl.getD o ""
def am_fl : List (Nat × Nat × Nat × Nat × Nat) := [(9, 11, 9, 0, 44), (10, 66, 9, 0, 45), (9, 15, 9, 1, 46), (10, 69, 9, 1, 47), (9, 18, 9, 2, 48), (10, 76, 9, 2, 49), (9, 21, 9, 3, 50), (10, 60, 9, 3, 51), (9, 24, 9, 4, 52), (9, 28, 9, 5, 53), (10, 11, 10, 0, 76), (10, 15, 10, 1, 77), (5, 9, 5, 0, 83), (11, 89, 5, 1, 84), (5, 33, 5, 1, 85), (5, 15, 5, 2, 86), (11, 121, 5, 2, 87), (5, 65, 5, 3, 88), (5, 55, 5, 4, 89), (5, 80, 5, 5, 90), (5, 42, 5, 6, 91), (5, 45, 5, 7, 92), (5, 49, 5, 8, 93), (5, 52, 5, 9, 94), (5, 39, 5, 10, 95), (5, 22, 5, 11, 96), (5, 29, 5, 12, 97), (2, 11, 2, 0, 133), (11, 107, 2, 0, 134), (2, 24, 2, 1, 135), (11, 96, 2, 1, 136), (2, 28, 2, 2, 137), (11, 124, 2, 2, 138), (2, 39, 2, 3, 139), (11, 135, 2, 3, 140), (2, 17, 2, 4, 141), (11, 384, 2, 4, 142), (2, 20, 2, 5, 143), (11, 380, 2, 5, 144), (2, 36, 2, 6, 145), (11, 371, 2, 6, 146), (11, 408, 2, 7, 147), (8, 9, 8, 0, 173), (0, 55, 8, 0, 174), (11, 190, 8, 0, 175), (8, 15, 8, 1, 176), (8, 33, 8, 2, 177), (8, 18, 8, 3, 178), (8, 29, 8, 4, 179), (6, 9, 6, 0, 197), (8, 36, 6, 0, 198), (5, 108, 6, 0, 199), (11, 141, 6, 0, 200), (6, 15, 6, 1, 201), (8, 58, 6, 1, 202), (5, 107, 6, 1, 203), (11, 153, 6, 1, 204), (6, 60, 6, 2, 205), (5, 111, 6, 2, 206), (6, 18, 6, 3, 207), (5, 104, 6, 3, 208), (11, 144, 6, 3, 209), (6, 21, 6, 4, 210), (5, 98, 6, 4, 211), (11, 147, 6, 4, 212), (6, 24, 6, 5, 213), (5, 101, 6, 5, 214), (11, 150, 6, 5, 215), (6, 27, 6, 6, 216), (8, 41, 6, 6, 217), (5, 122, 6, 6, 218), (11, 156, 6, 6, 219), (6, 31, 6, 7, 220), (8, 52, 6, 7, 221), (5, 118, 6, 7, 222), (11, 280, 6, 7, 223), (6, 34, 6, 8, 224), (11, 168, 6, 8, 225), (0, 9, 0, 0, 251), (11, 304, 0, 0, 252), (0, 28, 0, 1, 253), (11, 303, 0, 1, 254), (0, 15, 0, 2, 255), (0, 18, 0, 3, 256), (0, 48, 0, 4, 257), (0, 21, 0, 5, 258), (0, 25, 0, 6, 259), (0, 73, 0, 7, 260), (11, 127, 3, 0, 290), (3, 9, 3, 1, 291), (3, 15, 3, 2, 292), (4, 42, 3, 2, 293), (11, 208, 3, 2, 294), (3, 18, 3, 3, 295), (4, 35, 4, 0, 305), (11, 236, 4, 0, 306), (4, 9, 4, 1, 307), (4, 15, 4, 2, 308), (4, 32, 4, 3, 309), (11, 227, 4, 3, 310), (4, 22, 4, 4, 311), (11, 233, 4, 4, 312), (7, 49, 7, 0, 336), (7, 52, 7, 1, 337), (7, 9, 7, 2, 338), (11, 316, 7, 2, 339), (7, 55, 7, 3, 340), (11, 319, 7, 3, 341), (7, 61, 7, 4, 342), (1, 66, 7, 4, 343), (11, 329, 7, 4, 344), (7, 58, 7, 5, 345), (1, 69, 7, 5, 346), (11, 331, 7, 5, 347), (7, 15, 7, 6, 348), (7, 64, 7, 7, 349), (7, 68, 7, 8, 350), (7, 22, 7, 9, 351), (7, 31, 7, 10, 352), (1, 37, 1, 0, 382), (11, 250, 1, 0, 383), (1, 9, 1, 1, 384), (11, 343, 1, 1, 385), (1, 15, 1, 2, 386), (11, 350, 1, 2, 387), (1, 18, 1, 3, 388), (11, 353, 1, 3, 389), (1, 21, 1, 4, 390), (1, 30, 1, 5, 391), (11, 356, 1, 5, 392), (1, 34, 1, 6, 393), (11, 359, 1, 6, 394), (11, 10, 11, 0, 410), (11, 19, 11, 1, 411), (11, 23, 11, 2, 412), (11, 30, 11, 3, 413), (11, 39, 11, 4, 414), (11, 46, 11, 5, 415), (11, 53, 11, 6, 416), (11, 60, 11, 7, 417), (11, 67, 11, 8, 418), (11, 74, 11, 9, 419), (11, 78, 11, 10, 420), (11, 82, 11, 11, 421), (11, 86, 11, 12, 422), (11, 411, 11, 13, 423), (12, 94, 12, 0, 1231), (12, 9, 12, 1, 1232), (12, 13, 12, 2, 1233), (12, 16, 12, 3, 1234), (12, 19, 12, 4, 1235), (12, 23, 12, 5, 1236), (12, 27, 12, 6, 1237), (12, 30, 12, 7, 1238), (12, 120, 12, 8, 1239), (12, 33, 12, 9, 1240), (12, 37, 12, 10, 1241), (12, 40, 12, 11, 1242), (12, 43, 12, 12, 1243), (12, 123, 12, 13, 1244), (12, 143, 12, 14, 1245), (12, 137, 12, 16, 1246), (12, 46, 12, 17, 1247), (12, 152, 12, 18, 1248), (12, 175, 12, 19, 1249), (12, 178, 12, 20, 1250), (12, 181, 12, 21, 1251), (12, 184, 12, 22, 1252), (12, 187, 12, 23, 1253), (12, 49, 12, 24, 1254), (12, 52, 12, 25, 1255), (12, 55, 12, 26, 1256), (12, 224, 12, 27, 1257), (12, 58, 12, 28, 1258), (12, 61, 12, 29, 1259), (12, 64, 12, 30, 1260), (12, 254, 12, 31, 1261), (12, 67, 12, 32, 1262), (12, 70, 12, 33, 1263), (12, 73, 12, 34, 1264), (12, 76, 12, 35, 1265), (12, 79, 12, 36, 1266), (12, 324, 12, 37, 1267), (12, 333, 12, 38, 1268), (12, 321, 12, 39, 1269), (12, 82, 12, 40, 1270), (12, 85, 12, 41, 1271), (12, 88, 12, 42, 1272), (12, 91, 12, 43, 1273), (12, 397, 12, 44, 1274), (12, 400, 12, 45, 1275), (12, 381, 12, 46, 1276)]
def am_ml : List (Nat × Nat × Nat × Nat) := [(13, 9, 8, 26), (11, 36, 124, 193), (7, 28, 124, 335), (13, 13, 9, 453), (11, 92, 108, 457), (13, 18, 10, 461), (13, 23, 11, 465), (11, 99, 64, 469), (11, 103, 109, 473), (5, 36, 158, 477), (5, 58, 121, 481), (5, 61, 113, 485), (5, 131, 120, 489), (5, 137, 118, 494), (5, 160, 119, 498), (5, 143, 115, 551), (5, 169, 116, 555), (5, 178, 117, 559), (5, 183, 160, 563), (5, 190, 161, 569), (9, 32, 157, 573), (5, 174, 159, 579), (9, 36, 160, 583), (5, 152, 114, 587), (5, 68, 163, 596), (9, 40, 164, 600), (5, 73, 122, 612), (5, 203, 167, 616), (5, 204, 169, 620), (5, 210, 171, 625), (10, 29, 170, 629), (10, 25, 169, 633), (5, 214, 172, 636), (10, 41, 165, 640), (10, 49, 171, 645), (10, 53, 173, 646), (10, 57, 157, 650), (5, 222, 123, 656), (5, 228, 168, 662), (10, 19, 7, 666), (5, 77, 124, 682), (5, 83, 162, 683), (5, 87, 110, 687), (5, 91, 111, 694), (5, 114, 164, 698), (5, 125, 112, 699), (11, 111, 33, 704), (11, 114, 63, 708), (13, 28, 12, 712), (11, 117, 14, 716), (13, 32, 13, 720), (13, 36, 15, 724), (13, 40, 16, 728), (11, 131, 93, 732), (13, 44, 17, 736), (13, 48, 18, 740), (11, 138, 94, 744), (2, 32, 93, 748), (11, 160, 75, 749), (11, 419, 3, 752), (13, 53, 19, 758), (11, 164, 76, 762), (13, 57, 20, 765), (13, 61, 21, 769), (11, 172, 92, 773), (11, 176, 26, 777), (11, 193, 139, 781), (8, 23, 4, 786), (11, 196, 140, 789), (8, 44, 142, 793), (8, 48, 128, 797), (8, 55, 143, 801), (8, 61, 144, 806), (11, 179, 145, 810), (8, 74, 146, 816), (8, 78, 147, 820), (13, 65, 22, 824), (11, 183, 149, 828), (8, 82, 150, 832), (8, 86, 151, 836), (13, 69, 23, 840), (11, 187, 148, 844), (13, 73, 24, 848), (13, 77, 25, 852), (13, 81, 27, 856), (11, 200, 28, 860), (11, 207, 98, 864), (11, 211, 1, 868), (11, 216, 29, 874), (11, 220, 99, 878), (11, 204, 100, 882), (13, 85, 30, 886), (11, 224, 32, 890), (11, 237, 102, 894), (4, 26, 6, 898), (11, 240, 103, 901), (11, 243, 104, 905), (11, 247, 106, 909), (4, 39, 98, 913), (4, 45, 1, 914), (4, 51, 99, 915), (11, 230, 105, 916), (13, 89, 31, 920), (13, 93, 34, 924), (11, 251, 125, 928), (11, 255, 71, 935), (11, 398, 69, 938), (11, 401, 70, 941), (11, 258, 126, 944), (6, 52, 127, 953), (13, 97, 35, 962), (11, 261, 66, 966), (11, 265, 41, 967), (11, 294, 127, 971), (13, 102, 36, 972), (11, 269, 37, 976), (11, 273, 141, 980), (11, 276, 128, 984), (11, 283, 142, 985), (13, 106, 38, 986), (11, 287, 65, 990), (13, 111, 39, 993), (11, 290, 40, 997), (13, 115, 42, 1001), (11, 298, 78, 1005), (11, 299, 79, 1009), (0, 32, 154, 1013), (8, 99, 1, 1017), (0, 38, 145, 1018), (0, 51, 155, 1022), (0, 63, 80, 1028), (0, 67, 81, 1032), (0, 70, 82, 1037), (0, 76, 83, 1041), (13, 119, 43, 1046), (11, 307, 152, 1050), (8, 90, 3, 1054), (11, 310, 153, 1055), (8, 96, 2, 1059), (15, 311, 0, 1062), (13, 123, 44, 1066), (11, 313, 46, 1070), (11, 337, 130, 1074), (11, 322, 131, 1082), (7, 71, 133, 1086), (7, 75, 134, 1090), (7, 78, 135, 1093), (7, 81, 139, 1096), (7, 84, 127, 1097), (7, 88, 140, 1098), (7, 92, 149, 1099), (11, 326, 132, 1100), (13, 127, 45, 1104), (11, 334, 136, 1108), (7, 99, 137, 1115), (13, 131, 47, 1119), (11, 340, 50, 1123), (11, 362, 85, 1127), (1, 24, 5, 1131), (11, 364, 86, 1134), (11, 367, 87, 1139), (1, 45, 88, 1143), (1, 49, 90, 1147), (1, 53, 130, 1151), (1, 59, 89, 1152), (1, 63, 132, 1156), (11, 346, 67, 1158), (13, 135, 48, 1159), (13, 139, 49, 1163), (13, 143, 51, 1167), (11, 374, 95, 1171), (13, 147, 52, 1175), (11, 377, 54, 1179), (13, 151, 53, 1183), (13, 155, 55, 1187), (11, 388, 56, 1192), (13, 159, 57, 1196), (11, 392, 58, 1200), (11, 395, 68, 1204), (13, 163, 59, 1205), (11, 404, 96, 1209), (13, 167, 60, 1213), (13, 171, 61, 1217), (13, 175, 62, 1221), (13, 12, 174, 1227), (13, 166, 179, 1372), (12, 97, 175, 1376), (12, 101, 176, 1379), (12, 105, 177, 1383), (13, 170, 180, 1387), (13, 17, 187, 1391), (13, 22, 188, 1395), (13, 27, 204, 1399), (12, 108, 181, 1403), (12, 199, 203, 1407), (12, 190, 192, 1411), (12, 126, 189, 1415), (12, 129, 190, 1418), (12, 132, 191, 1421), (12, 193, 202, 1426), (12, 165, 196, 1430), (12, 146, 195, 1434), (12, 140, 193, 1438), (12, 149, 194, 1442), (12, 172, 199, 1446), (12, 155, 200, 1450), (12, 162, 201, 1454), (12, 168, 197, 1458), (12, 159, 198, 1461), (12, 196, 212, 1465), (12, 206, 211, 1469), (13, 31, 205, 1473), (13, 35, 206, 1477), (13, 39, 208, 1481), (12, 116, 182, 1485), (12, 112, 183, 1489), (12, 202, 207, 1493), (13, 43, 209, 1497), (13, 47, 210, 1501), (13, 52, 216, 1505), (12, 212, 184, 1509), (12, 215, 214, 1513), (12, 209, 213, 1517), (12, 218, 186, 1521), (12, 221, 178, 1525), (13, 56, 217, 1528), (13, 60, 226, 1532), (12, 251, 225, 1536), (12, 234, 220, 1540), (12, 231, 219, 1544), (12, 227, 218, 1548), (12, 248, 224, 1552), (12, 241, 221, 1556), (12, 244, 223, 1560), (12, 237, 222, 1564), (13, 64, 238, 1568), (12, 284, 185, 1572), (12, 287, 231, 1576), (12, 261, 227, 1580), (12, 264, 230, 1584), (12, 267, 229, 1588), (12, 257, 228, 1592), (12, 290, 235, 1596), (12, 275, 232, 1600), (12, 278, 234, 1604), (12, 271, 233, 1608), (13, 68, 239, 1612), (12, 293, 237, 1616), (12, 281, 236, 1620), (13, 72, 240, 1624), (13, 76, 241, 1628), (13, 80, 242, 1632), (13, 84, 243, 1636), (13, 88, 245, 1640), (12, 297, 244, 1644), (13, 92, 246, 1648), (13, 96, 248, 1652), (12, 300, 247, 1656), (12, 303, 215, 1659), (13, 101, 251, 1663), (12, 306, 249, 1667), (12, 309, 250, 1670), (13, 110, 252, 1674), (13, 114, 253, 1678), (13, 105, 257, 1682), (12, 312, 256, 1686), (12, 315, 254, 1690), (12, 318, 255, 1694), (13, 118, 261, 1698), (12, 336, 260, 1702), (12, 330, 258, 1706), (12, 327, 259, 1710), (13, 122, 262, 1714), (13, 126, 269, 1718), (12, 345, 265, 1722), (12, 339, 263, 1725), (12, 342, 264, 1728), (12, 348, 266, 1731), (12, 354, 268, 1734), (12, 351, 267, 1738), (13, 130, 272, 1741), (12, 357, 270, 1745), (12, 360, 271, 1748), (13, 134, 276, 1751), (12, 366, 275, 1755), (12, 369, 274, 1758), (12, 363, 273, 1762), (13, 138, 277, 1766), (13, 142, 278, 1770), (13, 146, 281, 1774), (12, 372, 280, 1778), (13, 150, 282, 1782), (12, 376, 279, 1786), (13, 154, 283, 1790), (13, 158, 287, 1794), (12, 388, 284, 1798), (12, 391, 285, 1805), (12, 394, 286, 1809), (13, 162, 288, 1813), (13, 174, 289, 1817), (13, 178, 290, 1821)]
def am_mn : List (Nat × Nat × Nat × Nat) := [(11, 9, 107, 34), (5, 21, 156, 40), (5, 28, 166, 72), (11, 18, 91, 127), (11, 29, 138, 169), (11, 45, 77, 247), (11, 52, 101, 280), (4, 21, 97, 286), (11, 59, 97, 325), (11, 66, 129, 328), (7, 21, 138, 333), (11, 73, 84, 378), (9, 44, 74, 604), (5, 94, 66, 691), (6, 38, 67, 932), (6, 42, 68, 948), (6, 46, 69, 951), (6, 49, 70, 952), (6, 56, 72, 957), (6, 64, 74, 960), (8, 104, 76, 1026), (0, 59, 76, 1027), (7, 35, 71, 1078), (7, 39, 69, 1079), (7, 43, 70, 1080), (7, 46, 68, 1081), (7, 96, 73, 1112), (7, 103, 72, 1118), (1, 41, 71, 1138), (1, 72, 67, 1157)]
def am_ol : List (Nat × Nat × Nat) := [(11, 1, 29), (5, 3, 37), (9, 3, 43), (10, 3, 75), (2, 3, 130), (8, 3, 172), (6, 3, 196), (0, 3, 250), (4, 3, 283), (3, 3, 289), (7, 3, 331), (1, 3, 381), (12, 3, 1230)]
def am_al : List (Nat × Nat × Nat) := [(16, 150, 679), (8, 65, 805), (0, 79, 1045)]
def am_xl : List (Nat × Nat × Nat × Nat) := [(16, 304, 1, 676), (0, 42, 0, 1019), (0, 85, 1, 1036)]
def am_sl2 : List (Nat × Nat × Nat × Nat) := [(5, 194, 0, 502), (5, 199, 1, 512), (10, 32, 0, 634), (10, 37, 1, 635)]
def am_kl2 : List (Nat × Nat × Nat × Nat) := [(13, 7, 11, 24), (11, 7, 5, 32), (5, 19, 9, 38), (5, 26, 10, 70), (11, 16, 2, 125), (2, 9, 6, 131), (11, 27, 8, 167), (11, 34, 6, 191), (11, 43, 0, 245), (11, 50, 4, 278), (4, 19, 3, 284), (11, 57, 3, 324), (11, 64, 7, 326), (7, 19, 8, 332), (7, 26, 6, 334), (11, 71, 1, 376), (5, 71, 6, 611), (13, 10, 12, 1225)]
def am_il : List (Nat × Nat × Int × Nat) := [(14, 265, 1431655765, 871), (14, 266, 858993459, 872), (14, 267, 252645135, 873), (14, 264, 65536, 1065), (11, 387, 1000000, 1191), (11, 391, 1000003, 1195), (12, 136, 1000000, 1425)]
def am_jl : List (Nat × Nat × Int × Nat) := [(11, 417, (-1), 609), (9, 47, (-1), 610), (5, 129, (-1), 703), (15, 314, 6148914691236517205, 755), (15, 316, 3689348814741910323, 756), (15, 318, 1085102592571150095, 757), (8, 21, (-1), 785), (6, 68, (-1), 961), (12, 379, 1103, 1802), (12, 384, 12345, 1803), (12, 386, 1000003, 1804)]
def am_tl : List (Nat × Nat × Nat × String) := [(5, 135, 9, "is"), (5, 141, 14, "not"), (5, 186, 3, "("), (5, 188, 4, ")"), (5, 181, 21, "who"), (5, 148, 6, "are"), (5, 172, 16, "or"), (5, 146, 18, "there"), (5, 150, 11, "no"), (5, 158, 5, "all"), (5, 163, 17, "some"), (5, 165, 15, "only"), (5, 167, 12, "none"), (5, 156, 8, "but"), (5, 208, 10, "is not"), (10, 47, 3, "("), (10, 64, 14, "not"), (10, 72, 16, "or"), (10, 74, 22, "who are"), (5, 218, 20, "there are no"), (5, 220, 19, "there are"), (5, 231, 13, "none but"), (5, 226, 7, "are not")]
def am_gl : List (Nat × Nat × Nat × Nat × Nat) := [(11, 414, 1, 0, 607), (8, 71, 2, 1, 814)]
abbrev am_MI : Type := Nat × MethodName × ByteArray × Nat × Option FieldType × Nat × Nat
def am_mi0 : List am_MI := [(14, ⟨"java/lang/Integer", "numberOfTrailingZeros", "(I)I"⟩, prog_16_method_48_code, 2, (some (.int)), 1, 0), (14, ⟨"java/lang/Integer", "bitCount", "(I)I"⟩, prog_16_method_49_code, 1, (some (.int)), 1, 0), (15, ⟨"java/lang/Long", "numberOfTrailingZeros", "(J)I"⟩, prog_17_method_49_code, 3, (some (.int)), 1, 0), (15, ⟨"java/lang/Long", "bitCount", "(J)I"⟩, prog_17_method_50_code, 2, (some (.int)), 1, 0), (16, ⟨"java/util/Arrays", "fill", "([JJ)V"⟩, prog_24_method_101_code, 5, none, 2, 0), (16, ⟨"java/util/Arrays", "fill", "([II)V"⟩, prog_24_method_103_code, 4, none, 2, 0), (16, ⟨"java/util/Arrays", "fill", "([BB)V"⟩, prog_24_method_109_code, 4, none, 2, 0), (16, ⟨"java/util/Arrays", "copyOf", "([BI)[B"⟩, prog_24_method_121_code, 3, (some (.array (.byte))), 2, 0), (11, ⟨"MoodSlips", "<init>", "()V"⟩, prog_1_method_1_code, 1, none, 0, 2), (11, ⟨"MoodSlips", "feed", "(IIIII)I"⟩, prog_1_method_2_code, 6, (some (.int)), 5, 1), (11, ⟨"MoodSlips", "end", "(I)I"⟩, prog_1_method_3_code, 2, (some (.int)), 1, 1), (11, ⟨"MoodSlips", "slip", "()I"⟩, prog_1_method_4_code, 3, (some (.int)), 0, 1), (11, ⟨"MoodSlips", "question", "()I"⟩, prog_1_method_5_code, 2, (some (.int)), 0, 1), (11, ⟨"MoodSlips", "fault", "()I"⟩, prog_1_method_6_code, 1, (some (.int)), 0, 1), (11, ⟨"MoodSlips", "ask", "(LMoodSlips$Sentence;)I"⟩, prog_1_method_7_code, 2, (some (.int)), 1, 1), (11, ⟨"MoodSlips", "write", "(I)I"⟩, prog_1_method_8_code, 2, (some (.int)), 1, 1), (11, ⟨"MoodSlips", "take", "(I)I"⟩, prog_1_method_9_code, 3, (some (.int)), 1, 1), (11, ⟨"MoodSlips", "existence", "(I)I"⟩, prog_1_method_10_code, 3, (some (.int)), 1, 1), (11, ⟨"MoodSlips", "of", "(II)I"⟩, prog_1_method_11_code, 4, (some (.int)), 2, 1), (11, ⟨"MoodSlips", "has", "(II)I"⟩, prog_1_method_12_code, 4, (some (.int)), 2, 1), (11, ⟨"MoodSlips", "letter", "(II)I"⟩, prog_1_method_13_code, 4, (some (.int)), 2, 1), (11, ⟨"MoodSlips", "quarrels", "(I)I"⟩, prog_1_method_14_code, 2, (some (.int)), 1, 1), (11, ⟨"MoodSlips", "follows", "(I)I"⟩, prog_1_method_15_code, 3, (some (.int)), 1, 1), (11, ⟨"MoodSlips", "denied", "(I)I"⟩, prog_1_method_16_code, 3, (some (.int)), 1, 1), (11, ⟨"MoodSlips", "open", "(I)I"⟩, prog_1_method_17_code, 2, (some (.int)), 1, 1), (11, ⟨"MoodSlips", "idle", "(I)I"⟩, prog_1_method_18_code, 6, (some (.int)), 1, 1), (11, ⟨"MoodSlips", "assume", "(I)V"⟩, prog_1_method_19_code, 4, none, 1, 1), (11, ⟨"MoodSlips", "least", "(I)I"⟩, prog_1_method_20_code, 3, (some (.int)), 1, 1), (11, ⟨"MoodSlips", "findSufficing", "(LMoodSlips$Sentence;)V"⟩, prog_1_method_21_code, 5, none, 1, 1), (11, ⟨"MoodSlips", "suffices", "(ILMoodSlips$Sentence;)Z"⟩, prog_1_method_22_code, 3, (some (.boolean)), 2, 1), (11, ⟨"MoodSlips", "quarrel", "(I)I"⟩, prog_1_method_23_code, 2, (some (.int)), 1, 1), (11, ⟨"MoodSlips", "calm", "(I)I"⟩, prog_1_method_24_code, 2, (some (.int)), 1, 1), (11, ⟨"MoodSlips", "findQuarrels", "()V"⟩, prog_1_method_25_code, 3, none, 0, 1), (11, ⟨"MoodSlips", "forgetFindings", "()V"⟩, prog_1_method_26_code, 1, none, 0, 1), (11, ⟨"MoodSlips", "hint", "(I)I"⟩, prog_1_method_27_code, 5, (some (.int)), 1, 1), (11, ⟨"MoodSlips", "between", "(III)I"⟩, prog_1_method_28_code, 6, (some (.int)), 3, 1), (11, ⟨"MoodSlips", "square", "(II)I"⟩, prog_1_method_29_code, 10, (some (.int)), 2, 1), (11, ⟨"MoodSlips", "canBothFail", "(LMoodSlips$Sentence;LMoodSlips$Sentence;)Z"⟩, prog_1_method_30_code, 3, (some (.boolean)), 2, 1), (11, ⟨"MoodSlips", "says", "(IIII)I"⟩, prog_1_method_31_code, 5, (some (.int)), 4, 1), (11, ⟨"MoodSlips", "all", "(II)I"⟩, prog_1_method_32_code, 3, (some (.int)), 2, 1), (11, ⟨"MoodSlips", "countFollowing", "(IZ)I"⟩, prog_1_method_33_code, 6, (some (.int)), 2, 1), (11, ⟨"MoodSlips", "simpleFollows", "(IIIZ)Z"⟩, prog_1_method_34_code, 5, (some (.boolean)), 4, 1), (11, ⟨"MoodSlips", "world", "(II)I"⟩, prog_1_method_35_code, 4, (some (.int)), 2, 1), (11, ⟨"MoodSlips", "name", "(III)I"⟩, prog_1_method_36_code, 4, (some (.int)), 3, 1), (11, ⟨"MoodSlips", "pair", "(III)I"⟩, prog_1_method_37_code, 4, (some (.int)), 3, 1), (11, ⟨"MoodSlips", "wrong", "(III)I"⟩, prog_1_method_38_code, 4, (some (.int)), 3, 1), (11, ⟨"MoodSlips", "pairSlips", "(II)Z"⟩, prog_1_method_39_code, 5, (some (.boolean)), 2, 1), (11, ⟨"MoodSlips", "derived", "(III)I"⟩, prog_1_method_40_code, 4, (some (.int)), 3, 1), (11, ⟨"MoodSlips", "by", "(IIII)I"⟩, prog_1_method_41_code, 6, (some (.int)), 4, 1), (11, ⟨"MoodSlips", "derive", "(I)I"⟩, prog_1_method_42_code, 2, (some (.int)), 1, 1)]
def am_mp0 : List (Nat × Nat × Nat × Nat) := [(1064, 23, 1063, 0), (870, 23, 869, 0), (1061, 22, 1060, 0), (754, 22, 753, 0), (788, 18, 787, 0), (1133, 18, 1132, 0), (900, 18, 899, 0), (668, 18, 667, 0), (28, 1, 27, 0), (456, 1, 454, 10455), (464, 1, 462, 10463), (468, 1, 466, 10467), (715, 1, 713, 10714), (723, 1, 721, 10722), (719, 1, 718, 19), (727, 1, 725, 10726), (731, 1, 729, 10730), (739, 1, 737, 10738), (743, 1, 741, 10742), (761, 1, 759, 10760), (768, 1, 766, 10767), (772, 1, 770, 10771), (827, 1, 825, 10826), (843, 1, 841, 10842), (851, 1, 849, 10850), (855, 1, 853, 10854), (780, 1, 779, 20), (859, 1, 857, 10858), (863, 1, 862, 27), (877, 1, 876, 28), (889, 1, 887, 10888), (923, 1, 921, 10922), (893, 1, 892, 29), (707, 1, 706, 17), (927, 1, 925, 10926), (965, 1, 963, 10964), (975, 1, 973, 10974), (979, 1, 978, 31), (989, 1, 987, 10988), (996, 1, 994, 10995), (1000, 1, 999, 32), (970, 1, 969, 30), (1004, 1, 1002, 11003), (1049, 1, 1047, 11048), (1069, 1, 1067, 11068), (1107, 1, 1105, 11106), (1073, 1, 1072, 37), (1122, 1, 1120, 11121), (1162, 1, 1160, 11161), (1166, 1, 1164, 11165)]
def am_mi1 : List am_MI := [(11, ⟨"MoodSlips", "findDerived", "()V"⟩, prog_1_method_43_code, 3, none, 0, 1), (11, ⟨"MoodSlips", "posit", "()I"⟩, prog_1_method_44_code, 2, (some (.int)), 0, 1), (11, ⟨"MoodSlips", "propose", "()I"⟩, prog_1_method_45_code, 2, (some (.int)), 0, 1), (11, ⟨"MoodSlips", "bound", "(I)I"⟩, prog_1_method_46_code, 2, (some (.int)), 1, 1), (11, ⟨"MoodSlips", "assumeBound", "()V"⟩, prog_1_method_47_code, 3, none, 0, 1), (11, ⟨"MoodSlips", "riddle", "(II)I"⟩, prog_1_method_48_code, 8, (some (.int)), 2, 1), (11, ⟨"MoodSlips", "nextState", "(I)I"⟩, prog_1_method_49_code, 1, (some (.int)), 1, 0), (11, ⟨"MoodSlips", "drawn", "(II)I"⟩, prog_1_method_50_code, 4, (some (.int)), 2, 1), (11, ⟨"MoodSlips", "countInRiddle", "(I)I"⟩, prog_1_method_51_code, 3, (some (.int)), 1, 1), (11, ⟨"MoodSlips", "image", "(I)I"⟩, prog_1_method_52_code, 2, (some (.int)), 1, 1), (11, ⟨"MoodSlips", "back", "(I)I"⟩, prog_1_method_53_code, 2, (some (.int)), 1, 1), (11, ⟨"MoodSlips", "count", "(I)I"⟩, prog_1_method_54_code, 2, (some (.int)), 1, 1), (11, ⟨"MoodSlips", "status", "()I"⟩, prog_1_method_55_code, 1, (some (.int)), 0, 1), (11, ⟨"MoodSlips", "grant", "(I)I"⟩, prog_1_method_56_code, 2, (some (.int)), 1, 1), (11, ⟨"MoodSlips", "refuse", "(I)I"⟩, prog_1_method_57_code, 3, (some (.int)), 1, 1), (11, ⟨"MoodSlips", "isMood", "(I)Z"⟩, prog_1_method_58_code, 1, (some (.boolean)), 1, 0), (11, ⟨"MoodSlips", "areTwoKinds", "(II)Z"⟩, prog_1_method_59_code, 2, (some (.boolean)), 2, 0), (11, ⟨"MoodSlips", "numberOf", "(III)I"⟩, prog_1_method_60_code, 3, (some (.int)), 3, 0), (11, ⟨"MoodSlips", "moodOf", "(I)I"⟩, prog_1_method_61_code, 1, (some (.int)), 1, 0), (11, ⟨"MoodSlips", "subjectOf", "(I)I"⟩, prog_1_method_62_code, 1, (some (.int)), 1, 0), (11, ⟨"MoodSlips", "predicateOf", "(I)I"⟩, prog_1_method_63_code, 1, (some (.int)), 1, 0), (11, ⟨"MoodSlips", "isSimple", "(I)Z"⟩, prog_1_method_64_code, 1, (some (.boolean)), 1, 0), (11, ⟨"MoodSlips", "isUniversal", "(I)Z"⟩, prog_1_method_65_code, 1, (some (.boolean)), 1, 0), (11, ⟨"MoodSlips", "isNegative", "(I)Z"⟩, prog_1_method_66_code, 1, (some (.boolean)), 1, 0), (11, ⟨"MoodSlips", "kindWord", "(II)J"⟩, prog_1_method_67_code, 3, (some (.long)), 2, 0), (11, ⟨"MoodSlips", "sizeOf", "([J)I"⟩, prog_1_method_68_code, 3, (some (.int)), 1, 0), (11, ⟨"MoodSlips", "isIn", "([JI)Z"⟩, prog_1_method_69_code, 3, (some (.boolean)), 2, 0), (0, ⟨"MoodSlips$Denial", "<init>", "()V"⟩, prog_2_method_1_code, 1, none, 0, 2), (0, ⟨"MoodSlips$Denial", "clear", "()V"⟩, prog_2_method_2_code, 1, none, 0, 1), (0, ⟨"MoodSlips$Denial", "consider", "(LMoodSlips$Theory;)V"⟩, prog_2_method_3_code, 6, none, 1, 1), (0, ⟨"MoodSlips$Denial", "noteMask", "(I)V"⟩, prog_2_method_4_code, 4, none, 1, 1), (0, ⟨"MoodSlips$Denial", "countFewest", "(I)V"⟩, prog_2_method_5_code, 6, none, 1, 1), (0, ⟨"MoodSlips$Denial", "fillTrial", "(I)V"⟩, prog_2_method_6_code, 5, none, 1, 1), (0, ⟨"MoodSlips$Denial", "trialIsAhead", "()Z"⟩, prog_2_method_7_code, 2, (some (.boolean)), 0, 1), (1, ⟨"MoodSlips$Derivation", "<init>", "()V"⟩, prog_3_method_1_code, 1, none, 0, 2), (1, ⟨"MoodSlips$Derivation", "start", "()V"⟩, prog_3_method_2_code, 1, none, 0, 1), (1, ⟨"MoodSlips$Derivation", "addGiven", "(I)V"⟩, prog_3_method_3_code, 2, none, 1, 1), (1, ⟨"MoodSlips$Derivation", "run", "(LMoodSlips$Syllogism;)V"⟩, prog_3_method_4_code, 4, none, 1, 1), (1, ⟨"MoodSlips$Derivation", "deriveRound", "(ILMoodSlips$Syllogism;)V"⟩, prog_3_method_5_code, 9, none, 2, 1), (1, ⟨"MoodSlips$Derivation", "addConclusion", "(ILMoodSlips$Syllogism;II)V"⟩, prog_3_method_6_code, 7, none, 4, 1), (1, ⟨"MoodSlips$Derivation", "listAhead", "()I"⟩, prog_3_method_7_code, 3, (some (.int)), 0, 1), (2, ⟨"MoodSlips$Desk", "<init>", "()V"⟩, prog_4_method_1_code, 1, none, 0, 2), (2, ⟨"MoodSlips$Desk", "hasHeap", "(I)Z"⟩, prog_4_method_2_code, 2, (some (.boolean)), 1, 1), (2, ⟨"MoodSlips$Desk", "slipAt", "(I)LMoodSlips$Sentence;"⟩, prog_4_method_3_code, 2, (some (.object "MoodSlips$Sentence")), 1, 1), (2, ⟨"MoodSlips$Desk", "sentenceAt", "(I)LMoodSlips$Sentence;"⟩, prog_4_method_4_code, 2, (some (.object "MoodSlips$Sentence")), 1, 1), (2, ⟨"MoodSlips$Desk", "bind", "(LMoodSlips$Sentence;Z)V"⟩, prog_4_method_5_code, 3, none, 2, 1), (2, ⟨"MoodSlips$Desk", "copyFrom", "(LMoodSlips$Desk;)V"⟩, prog_4_method_6_code, 3, none, 1, 1), (3, ⟨"MoodSlips$Fewest", "<init>", "()V"⟩, prog_5_method_1_code, 1, none, 0, 2), (3, ⟨"MoodSlips$Fewest", "clear", "()V"⟩, prog_5_method_2_code, 1, none, 0, 1), (3, ⟨"MoodSlips$Fewest", "note", "(II)V"⟩, prog_5_method_3_code, 3, none, 2, 1)]
def am_mp1 : List (Nat × Nat × Nat × Nat) := [(1126, 1, 1125, 39), (1170, 1, 1168, 11169), (1178, 1, 1176, 11177), (1186, 1, 1184, 11185), (1182, 1, 1181, 43), (1190, 1, 1188, 11189), (1194, 1, 1193, 0), (1199, 1, 1197, 11198), (1203, 1, 1202, 44), (1208, 1, 1206, 11207), (1216, 1, 1214, 11215), (1220, 1, 1218, 11219), (1224, 1, 1222, 11223), (711, 1, 710, 18), (472, 1, 471, 0), (992, 1, 991, 0), (693, 1, 692, 0), (934, 1, 933, 0), (950, 1, 949, 0), (940, 1, 939, 0), (943, 1, 942, 0), (937, 1, 936, 0), (959, 1, 958, 0), (1114, 1, 1113, 0), (606, 1, 605, 0), (751, 1, 750, 0), (764, 1, 763, 0), (249, 8, 248, 0), (1008, 8, 1006, 11007), (1012, 8, 1010, 11011), (1031, 8, 1030, 33), (1035, 8, 1034, 34), (1040, 8, 1039, 35), (1044, 8, 1043, 36), (380, 12, 379, 0), (1130, 12, 1128, 11129), (1137, 12, 1135, 11136), (1142, 12, 1140, 11141), (1146, 12, 1145, 40), (1155, 12, 1154, 42), (1150, 12, 1149, 41), (129, 5, 128, 0), (776, 5, 774, 10775), (735, 5, 733, 10734), (747, 5, 745, 10746), (1174, 5, 1172, 11173), (1212, 5, 1210, 11211), (288, 10, 287, 0), (867, 10, 865, 10866), (881, 10, 879, 10880)]
def am_mi2 : List am_MI := [(3, ⟨"MoodSlips$Fewest", "tell", "(I)I"⟩, prog_5_method_4_code, 2, (some (.int)), 1, 1), (4, ⟨"MoodSlips$Quarrels", "<init>", "()V"⟩, prog_6_method_1_code, 1, none, 0, 2), (4, ⟨"MoodSlips$Quarrels", "start", "(I)V"⟩, prog_6_method_2_code, 2, none, 1, 1), (4, ⟨"MoodSlips$Quarrels", "markByPart", "(I)Z"⟩, prog_6_method_3_code, 4, (some (.boolean)), 1, 1), (4, ⟨"MoodSlips$Quarrels", "mark", "(IZ)V"⟩, prog_6_method_4_code, 3, none, 2, 1), (4, ⟨"MoodSlips$Quarrels", "leastAt", "(I)I"⟩, prog_6_method_5_code, 4, (some (.int)), 1, 1), (4, ⟨"MoodSlips$Quarrels", "findLeftOut", "()V"⟩, prog_6_method_6_code, 3, none, 0, 1), (5, ⟨"MoodSlips$Reader", "<init>", "()V"⟩, prog_7_method_1_code, 1, none, 0, 2), (5, ⟨"MoodSlips$Reader", "append", "(I)V"⟩, prog_7_method_2_code, 3, none, 1, 1), (5, ⟨"MoodSlips$Reader", "read", "()LMoodSlips$Sentence;"⟩, prog_7_method_3_code, 6, (some (.object "MoodSlips$Sentence")), 0, 1), (5, ⟨"MoodSlips$Reader", "tellSimple", "(LMoodSlips$Sentence;II)V"⟩, prog_7_method_4_code, 4, none, 3, 1), (5, ⟨"MoodSlips$Reader", "tellSet", "(LMoodSlips$Sentence;II)V"⟩, prog_7_method_5_code, 9, none, 3, 1), (5, ⟨"MoodSlips$Reader", "meant", "(JJ)J"⟩, prog_7_method_6_code, 5, (some (.long)), 2, 1), (5, ⟨"MoodSlips$Reader", "parse", "()Z"⟩, prog_7_method_7_code, 1, (some (.boolean)), 0, 1), (5, ⟨"MoodSlips$Reader", "formHere", "()I"⟩, prog_7_method_8_code, 1, (some (.int)), 0, 1), (5, ⟨"MoodSlips$Reader", "term", "(I)I"⟩, prog_7_method_9_code, 4, (some (.int)), 1, 1), (5, ⟨"MoodSlips$Reader", "both", "(I)I"⟩, prog_7_method_10_code, 4, (some (.int)), 1, 1), (5, ⟨"MoodSlips$Reader", "plain", "(I)I"⟩, prog_7_method_11_code, 4, (some (.int)), 1, 1), (5, ⟨"MoodSlips$Reader", "pass", "(Ljava/lang/String;)Z"⟩, prog_7_method_12_code, 2, (some (.boolean)), 1, 1), (5, ⟨"MoodSlips$Reader", "isAt", "(Ljava/lang/String;)Z"⟩, prog_7_method_13_code, 4, (some (.boolean)), 1, 1), (5, ⟨"MoodSlips$Reader", "isSign", "(CC)Z"⟩, prog_7_method_14_code, 3, (some (.boolean)), 2, 1), (5, ⟨"MoodSlips$Reader", "step", "()V"⟩, prog_7_method_15_code, 1, none, 0, 1), (5, ⟨"MoodSlips$Reader", "writeDown", "()[B"⟩, prog_7_method_16_code, 1, (some (.array (.byte))), 0, 1), (5, ⟨"MoodSlips$Reader", "leadingWords", "()Ljava/lang/String;"⟩, prog_7_method_17_code, 1, (some (.object "java/lang/String")), 0, 1), (6, ⟨"MoodSlips$Sentence", "<init>", "([B)V"⟩, prog_8_method_1_code, 2, none, 1, 2), (6, ⟨"MoodSlips$Sentence", "number", "()I"⟩, prog_8_method_2_code, 1, (some (.int)), 0, 1), (6, ⟨"MoodSlips$Sentence", "setNumber", "(I)V"⟩, prog_8_method_3_code, 2, none, 1, 1), (6, ⟨"MoodSlips$Sentence", "setSimple", "(III)V"⟩, prog_8_method_4_code, 10, none, 3, 1), (6, ⟨"MoodSlips$Sentence", "tellsSubject", "(Z)Z"⟩, prog_8_method_5_code, 2, (some (.boolean)), 1, 1), (7, ⟨"MoodSlips$Syllogism", "<init>", "()V"⟩, prog_9_method_1_code, 1, none, 0, 2), (7, ⟨"MoodSlips$Syllogism", "join", "(II)Z"⟩, prog_9_method_2_code, 9, (some (.boolean)), 2, 1), (7, ⟨"MoodSlips$Syllogism", "learn", "(Z)V"⟩, prog_9_method_3_code, 3, none, 1, 1), (7, ⟨"MoodSlips$Syllogism", "conclude", "()I"⟩, prog_9_method_4_code, 2, (some (.int)), 0, 1), (7, ⟨"MoodSlips$Syllogism", "firstMood", "(IIIZ)I"⟩, prog_9_method_5_code, 8, (some (.int)), 4, 1), (7, ⟨"MoodSlips$Syllogism", "leadsMajor", "(I)Z"⟩, prog_9_method_6_code, 1, (some (.boolean)), 1, 0), (7, ⟨"MoodSlips$Syllogism", "leadsMinor", "(I)Z"⟩, prog_9_method_7_code, 1, (some (.boolean)), 1, 0), (7, ⟨"MoodSlips$Syllogism", "judge", "(IZ)I"⟩, prog_9_method_8_code, 7, (some (.int)), 2, 1), (7, ⟨"MoodSlips$Syllogism", "isDistributed", "(IZ)Z"⟩, prog_9_method_9_code, 2, (some (.boolean)), 2, 0), (8, ⟨"MoodSlips$Theory", "<init>", "()V"⟩, prog_10_method_1_code, 1, none, 0, 2), (8, ⟨"MoodSlips$Theory", "clear", "()V"⟩, prog_10_method_2_code, 1, none, 0, 1), (8, ⟨"MoodSlips$Theory", "grantClaim", "(LMoodSlips$Sentence;Z)V"⟩, prog_10_method_3_code, 3, none, 2, 1), (8, ⟨"MoodSlips$Theory", "denyClaim", "(LMoodSlips$Sentence;)V"⟩, prog_10_method_4_code, 2, none, 1, 1), (8, ⟨"MoodSlips$Theory", "bar", "([J)V"⟩, prog_10_method_5_code, 3, none, 1, 1), (8, ⟨"MoodSlips$Theory", "want", "([J)V"⟩, prog_10_method_6_code, 2, none, 1, 1), (8, ⟨"MoodSlips$Theory", "place", "(I[JJ)V"⟩, prog_10_method_7_code, 6, none, 3, 1), (8, ⟨"MoodSlips$Theory", "fits", "()Z"⟩, prog_10_method_8_code, 1, (some (.boolean)), 0, 1), (8, ⟨"MoodSlips$Theory", "fitsWithout", "([J)Z"⟩, prog_10_method_9_code, 3, (some (.boolean)), 1, 1), (8, ⟨"MoodSlips$Theory", "meets", "([JI[J)Z"⟩, prog_10_method_10_code, 7, (some (.boolean)), 3, 1), (8, ⟨"MoodSlips$Theory", "canHold", "(LMoodSlips$Sentence;Z)Z"⟩, prog_10_method_11_code, 3, (some (.boolean)), 2, 1), (8, ⟨"MoodSlips$Theory", "canFail", "(LMoodSlips$Sentence;Z)Z"⟩, prog_10_method_12_code, 3, (some (.boolean)), 2, 1)]
def am_mp2 : List (Nat × Nat × Nat × Nat) := [(885, 10, 883, 10884), (282, 9, 281, 0), (897, 9, 895, 10896), (904, 9, 902, 10903), (908, 9, 906, 10907), (919, 9, 917, 10918), (912, 9, 910, 10911), (36, 2, 35, 0), (460, 2, 458, 10459), (476, 2, 474, 10475), (690, 2, 689, 14), (697, 2, 696, 15), (702, 2, 701, 16), (488, 2, 487, 2), (590, 2, 589, 9), (554, 2, 553, 6), (558, 2, 557, 7), (562, 2, 561, 8), (497, 2, 496, 4), (501, 2, 500, 5), (492, 2, 491, 3), (484, 2, 483, 1), (615, 2, 614, 10), (659, 2, 658, 13), (195, 7, 194, 0), (931, 7, 929, 10930), (947, 7, 945, 10946), (956, 7, 954, 10955), (800, 7, 798, 10799), (330, 11, 329, 0), (1077, 11, 1075, 11076), (1085, 11, 1083, 11084), (1103, 11, 1101, 11102), (1089, 11, 1088, 38), (1092, 11, 1091, 0), (1095, 11, 1094, 0), (1111, 11, 1109, 11110), (1117, 11, 1116, 0), (171, 6, 170, 0), (784, 6, 782, 10783), (792, 6, 790, 10791), (983, 6, 981, 10982), (796, 6, 794, 10795), (804, 6, 803, 21), (809, 6, 808, 22), (813, 6, 811, 10812), (819, 6, 818, 23), (823, 6, 822, 24), (847, 6, 845, 10846), (831, 6, 829, 10830)]
def am_mi3 : List am_MI := [(8, ⟨"MoodSlips$Theory", "canBePlaced", "(LMoodSlips$Sentence;J)Z"⟩, prog_10_method_13_code, 7, (some (.boolean)), 2, 1), (8, ⟨"MoodSlips$Theory", "placeWord", "(II)J"⟩, prog_10_method_14_code, 3, (some (.long)), 2, 1), (8, ⟨"MoodSlips$Theory", "countPlaces", "(I)I"⟩, prog_10_method_15_code, 4, (some (.int)), 1, 1), (8, ⟨"MoodSlips$Theory", "lowestPlace", "(I)I"⟩, prog_10_method_16_code, 5, (some (.int)), 1, 1), (8, ⟨"MoodSlips$Theory", "countWants", "()I"⟩, prog_10_method_17_code, 1, (some (.int)), 0, 1), (8, ⟨"MoodSlips$Theory", "wantsMet", "(I)I"⟩, prog_10_method_18_code, 7, (some (.int)), 1, 1), (9, ⟨"MoodSlips$Tree", "<init>", "()V"⟩, prog_11_method_1_code, 1, none, 0, 2), (9, ⟨"MoodSlips$Tree", "hasNode", "(I)Z"⟩, prog_11_method_2_code, 2, (some (.boolean)), 1, 1), (9, ⟨"MoodSlips$Tree", "clear", "()V"⟩, prog_11_method_3_code, 1, none, 0, 1), (9, ⟨"MoodSlips$Tree", "join", "(III)I"⟩, prog_11_method_4_code, 4, (some (.int)), 3, 1), (9, ⟨"MoodSlips$Tree", "make", "(III)I"⟩, prog_11_method_5_code, 5, (some (.int)), 3, 1), (9, ⟨"MoodSlips$Tree", "negate", "(II)V"⟩, prog_11_method_6_code, 3, none, 2, 1), (9, ⟨"MoodSlips$Tree", "kindAt", "(I)I"⟩, prog_11_method_7_code, 2, (some (.int)), 1, 1), (9, ⟨"MoodSlips$Tree", "findSets", "()V"⟩, prog_11_method_8_code, 5, none, 0, 1), (9, ⟨"MoodSlips$Tree", "setWord", "(II)J"⟩, prog_11_method_9_code, 3, (some (.long)), 2, 1), (9, ⟨"MoodSlips$Tree", "beginsWithNot", "(I)Z"⟩, prog_11_method_10_code, 6, (some (.boolean)), 1, 1), (10, ⟨"MoodSlips$Writer", "<init>", "()V"⟩, prog_12_method_1_code, 1, none, 0, 2), (10, ⟨"MoodSlips$Writer", "clear", "()V"⟩, prog_12_method_2_code, 1, none, 0, 1), (10, ⟨"MoodSlips$Writer", "copy", "()[B"⟩, prog_12_method_3_code, 1, (some (.array (.byte))), 0, 1), (10, ⟨"MoodSlips$Writer", "putSign", "(C)V"⟩, prog_12_method_4_code, 2, none, 1, 1), (10, ⟨"MoodSlips$Writer", "putBlank", "()V"⟩, prog_12_method_5_code, 1, none, 0, 1), (10, ⟨"MoodSlips$Writer", "putWord", "(Ljava/lang/String;)V"⟩, prog_12_method_6_code, 3, none, 1, 1), (10, ⟨"MoodSlips$Writer", "putTerm", "(LMoodSlips$Tree;IZ)V"⟩, prog_12_method_7_code, 5, none, 3, 1), (10, ⟨"MoodSlips$Writer", "putNode", "(LMoodSlips$Tree;IZZI)V"⟩, prog_12_method_8_code, 10, none, 5, 1), (12, ⟨"MoodSlipsModel", "<init>", "()V"⟩, prog_14_method_1_code, 1, none, 0, 2), (12, ⟨"MoodSlipsModel", "lies", "(III)Z"⟩, prog_14_method_2_code, 3, (some (.boolean)), 3, 0), (12, ⟨"MoodSlipsModel", "refuses", "(I)I"⟩, prog_14_method_3_code, 2, (some (.int)), 1, 1), (12, ⟨"MoodSlipsModel", "good", "(I)I"⟩, prog_14_method_4_code, 2, (some (.int)), 1, 1), (12, ⟨"MoodSlipsModel", "ones", "(I)I"⟩, prog_14_method_5_code, 3, (some (.int)), 1, 0), (12, ⟨"MoodSlipsModel", "image", "(I)I"⟩, prog_14_method_6_code, 3, (some (.int)), 1, 1), (12, ⟨"MoodSlipsModel", "back", "(I)I"⟩, prog_14_method_7_code, 3, (some (.int)), 1, 1), (12, ⟨"MoodSlipsModel", "slips", "()I"⟩, prog_14_method_8_code, 1, (some (.int)), 0, 1), (12, ⟨"MoodSlipsModel", "isSlip", "(I)Z"⟩, prog_14_method_9_code, 2, (some (.boolean)), 1, 1), (12, ⟨"MoodSlipsModel", "isAsked", "()Z"⟩, prog_14_method_10_code, 1, (some (.boolean)), 0, 1), (12, ⟨"MoodSlipsModel", "slotOf", "(I)I"⟩, prog_14_method_11_code, 2, (some (.int)), 1, 1), (12, ⟨"MoodSlipsModel", "isHeap", "(I)Z"⟩, prog_14_method_12_code, 2, (some (.boolean)), 1, 1), (12, ⟨"MoodSlipsModel", "part", "(II)I"⟩, prog_14_method_13_code, 3, (some (.int)), 2, 1), (12, ⟨"MoodSlipsModel", "feed", "(IIIII)I"⟩, prog_14_method_14_code, 7, (some (.int)), 5, 1), (12, ⟨"MoodSlipsModel", "end", "(I)I"⟩, prog_14_method_15_code, 2, (some (.int)), 1, 1), (12, ⟨"MoodSlipsModel", "isSmall", "(I)Z"⟩, prog_14_method_16_code, 1, (some (.boolean)), 1, 0), (12, ⟨"MoodSlipsModel", "isDigit", "(I)Z"⟩, prog_14_method_17_code, 1, (some (.boolean)), 1, 0), (12, ⟨"MoodSlipsModel", "wordOf", "(II)I"⟩, prog_14_method_18_code, 8, (some (.int)), 2, 1), (12, ⟨"MoodSlipsModel", "splits", "(I)V"⟩, prog_14_method_19_code, 6, none, 1, 1), (12, ⟨"MoodSlipsModel", "fine", "()Z"⟩, prog_14_method_20_code, 1, (some (.boolean)), 0, 1), (12, ⟨"MoodSlipsModel", "faults", "()V"⟩, prog_14_method_21_code, 1, none, 0, 1), (12, ⟨"MoodSlipsModel", "takes0", "(I)Z"⟩, prog_14_method_22_code, 3, (some (.boolean)), 1, 1), (12, ⟨"MoodSlipsModel", "must", "(I)V"⟩, prog_14_method_23_code, 2, none, 1, 1), (12, ⟨"MoodSlipsModel", "sign", "(C)I"⟩, prog_14_method_24_code, 1, (some (.int)), 1, 0), (12, ⟨"MoodSlipsModel", "makes", "(I)V"⟩, prog_14_method_25_code, 2, none, 1, 1), (12, ⟨"MoodSlipsModel", "readsTerm", "(I)V"⟩, prog_14_method_26_code, 2, none, 1, 1)]
def am_mp3 : List (Nat × Nat × Nat × Nat) := [(835, 6, 834, 25), (839, 6, 838, 26), (1053, 6, 1051, 11052), (1058, 6, 1056, 11057), (1016, 6, 1014, 11015), (1025, 6, 1023, 11024), (42, 3, 41, 0), (576, 3, 574, 10575), (480, 3, 478, 10479), (582, 3, 580, 10581), (566, 3, 564, 10565), (572, 3, 570, 10571), (686, 3, 684, 10685), (599, 3, 597, 10598), (603, 3, 601, 10602), (643, 3, 641, 10642), (74, 4, 73, 0), (619, 4, 617, 10618), (665, 4, 663, 10664), (623, 4, 621, 10622), (632, 4, 631, 11), (628, 4, 626, 10627), (639, 4, 637, 10638), (649, 4, 648, 12), (1229, 13, 1228, 0), (1378, 13, 1377, 0), (1382, 13, 1381, 45), (1386, 13, 1385, 46), (1527, 13, 1526, 0), (1375, 13, 1373, 11374), (1390, 13, 1388, 11389), (1406, 13, 1405, 47), (1488, 13, 1487, 62), (1492, 13, 1491, 63), (1512, 13, 1511, 65), (1575, 13, 1574, 77), (1524, 13, 1523, 68), (1394, 13, 1392, 11393), (1398, 13, 1396, 11397), (1417, 13, 1416, 0), (1420, 13, 1419, 0), (1424, 13, 1423, 50), (1414, 13, 1413, 49), (1441, 13, 1440, 54), (1445, 13, 1444, 55), (1437, 13, 1436, 53), (1433, 13, 1432, 52), (1460, 13, 1459, 0), (1464, 13, 1463, 59), (1449, 13, 1448, 56)]
def am_mi4 : List am_MI := [(12, ⟨"MoodSlipsModel", "readBoth", "(I)V"⟩, prog_14_method_27_code, 2, none, 1, 1), (12, ⟨"MoodSlipsModel", "readPlain", "(I)V"⟩, prog_14_method_28_code, 5, none, 1, 1), (12, ⟨"MoodSlipsModel", "readSentence", "()V"⟩, prog_14_method_29_code, 1, none, 0, 1), (12, ⟨"MoodSlipsModel", "reads", "(I)Z"⟩, prog_14_method_30_code, 4, (some (.boolean)), 1, 1), (12, ⟨"MoodSlipsModel", "slip", "()I"⟩, prog_14_method_31_code, 1, (some (.int)), 0, 1), (12, ⟨"MoodSlipsModel", "question", "()I"⟩, prog_14_method_32_code, 1, (some (.int)), 0, 1), (12, ⟨"MoodSlipsModel", "fault", "()I"⟩, prog_14_method_33_code, 1, (some (.int)), 0, 1), (12, ⟨"MoodSlipsModel", "copies", "(II)V"⟩, prog_14_method_34_code, 4, none, 2, 1), (12, ⟨"MoodSlipsModel", "write", "(I)I"⟩, prog_14_method_35_code, 2, (some (.int)), 1, 1), (12, ⟨"MoodSlipsModel", "take", "(I)I"⟩, prog_14_method_36_code, 2, (some (.int)), 1, 1), (12, ⟨"MoodSlipsModel", "existence", "(I)I"⟩, prog_14_method_37_code, 3, (some (.int)), 1, 1), (12, ⟨"MoodSlipsModel", "isRegion", "(III)Z"⟩, prog_14_method_38_code, 7, (some (.boolean)), 3, 1), (12, ⟨"MoodSlipsModel", "laysSays", "(I)V"⟩, prog_14_method_39_code, 12, none, 1, 1), (12, ⟨"MoodSlipsModel", "isAlone", "(III)Z"⟩, prog_14_method_40_code, 4, (some (.boolean)), 3, 1), (12, ⟨"MoodSlipsModel", "numberOf", "(I)I"⟩, prog_14_method_41_code, 9, (some (.int)), 1, 1), (12, ⟨"MoodSlipsModel", "simple", "(I)V"⟩, prog_14_method_42_code, 4, none, 1, 1), (12, ⟨"MoodSlipsModel", "of", "(II)I"⟩, prog_14_method_43_code, 7, (some (.int)), 2, 1), (12, ⟨"MoodSlipsModel", "has", "(II)I"⟩, prog_14_method_44_code, 4, (some (.int)), 2, 1), (12, ⟨"MoodSlipsModel", "puts", "(C)V"⟩, prog_14_method_45_code, 2, none, 1, 1), (12, ⟨"MoodSlipsModel", "blank", "()V"⟩, prog_14_method_46_code, 1, none, 0, 1), (12, ⟨"MoodSlipsModel", "writesWord", "(I)V"⟩, prog_14_method_47_code, 4, none, 1, 1), (12, ⟨"MoodSlipsModel", "laysStarts", "(II)V"⟩, prog_14_method_48_code, 6, none, 2, 1), (12, ⟨"MoodSlipsModel", "writes", "(IIZ)V"⟩, prog_14_method_49_code, 7, none, 3, 1), (12, ⟨"MoodSlipsModel", "begins", "(II)Z"⟩, prog_14_method_50_code, 5, (some (.boolean)), 2, 1), (12, ⟨"MoodSlipsModel", "writesTerm", "(IIZ)V"⟩, prog_14_method_51_code, 4, none, 3, 1), (12, ⟨"MoodSlipsModel", "writesAll", "(I)V"⟩, prog_14_method_52_code, 8, none, 1, 1), (12, ⟨"MoodSlipsModel", "letter", "(II)I"⟩, prog_14_method_53_code, 4, (some (.int)), 2, 1), (12, ⟨"MoodSlipsModel", "empties", "()V"⟩, prog_14_method_54_code, 2, none, 0, 1), (12, ⟨"MoodSlipsModel", "tells", "(IIIZ)V"⟩, prog_14_method_55_code, 6, none, 4, 1), (12, ⟨"MoodSlipsModel", "tellsOf", "(IZ)V"⟩, prog_14_method_56_code, 4, none, 2, 1), (12, ⟨"MoodSlipsModel", "isTold", "()Z"⟩, prog_14_method_57_code, 1, (some (.boolean)), 0, 1), (12, ⟨"MoodSlipsModel", "heaps", "(I)V"⟩, prog_14_method_58_code, 3, none, 1, 1), (12, ⟨"MoodSlipsModel", "nothingBesides", "()V"⟩, prog_14_method_59_code, 2, none, 0, 1), (12, ⟨"MoodSlipsModel", "isShut", "([II)Z"⟩, prog_14_method_60_code, 4, (some (.boolean)), 2, 1), (12, ⟨"MoodSlipsModel", "quarrelsNow", "()Z"⟩, prog_14_method_61_code, 2, (some (.boolean)), 0, 1), (12, ⟨"MoodSlipsModel", "isQuarrel", "()Z"⟩, prog_14_method_62_code, 1, (some (.boolean)), 0, 1), (12, ⟨"MoodSlipsModel", "followsThat", "(III)Z"⟩, prog_14_method_63_code, 6, (some (.boolean)), 3, 1), (12, ⟨"MoodSlipsModel", "followsOf", "(IZ)Z"⟩, prog_14_method_64_code, 4, (some (.boolean)), 2, 1), (12, ⟨"MoodSlipsModel", "quarrels", "(I)I"⟩, prog_14_method_65_code, 2, (some (.int)), 1, 1), (12, ⟨"MoodSlipsModel", "follows", "(I)I"⟩, prog_14_method_66_code, 2, (some (.int)), 1, 1), (12, ⟨"MoodSlipsModel", "denied", "(I)I"⟩, prog_14_method_67_code, 2, (some (.int)), 1, 1), (12, ⟨"MoodSlipsModel", "open", "(I)I"⟩, prog_14_method_68_code, 4, (some (.int)), 1, 1), (12, ⟨"MoodSlipsModel", "idle", "(I)I"⟩, prog_14_method_69_code, 4, (some (.int)), 1, 1), (12, ⟨"MoodSlipsModel", "least", "(I)I"⟩, prog_14_method_70_code, 5, (some (.int)), 1, 1), (12, ⟨"MoodSlipsModel", "isQuarrelling", "(I)Z"⟩, prog_14_method_71_code, 2, (some (.boolean)), 1, 1), (12, ⟨"MoodSlipsModel", "quarrel", "(I)I"⟩, prog_14_method_72_code, 6, (some (.int)), 1, 1), (12, ⟨"MoodSlipsModel", "calm", "(I)I"⟩, prog_14_method_73_code, 6, (some (.int)), 1, 1), (12, ⟨"MoodSlipsModel", "isNumber", "(I)Z"⟩, prog_14_method_74_code, 1, (some (.boolean)), 1, 0), (12, ⟨"MoodSlipsModel", "hint", "(I)I"⟩, prog_14_method_75_code, 3, (some (.int)), 1, 1), (12, ⟨"MoodSlipsModel", "isKind", "(I)Z"⟩, prog_14_method_76_code, 1, (some (.boolean)), 1, 0)]
def am_mp4 : List (Nat × Nat × Nat × Nat) := [(1453, 13, 1452, 57), (1457, 13, 1456, 58), (1429, 13, 1428, 51), (1410, 13, 1409, 48), (1402, 13, 1400, 11401), (1476, 13, 1474, 11475), (1480, 13, 1478, 11479), (1496, 13, 1495, 64), (1484, 13, 1482, 11483), (1500, 13, 1498, 11499), (1504, 13, 1502, 11503), (1472, 13, 1471, 61), (1468, 13, 1467, 60), (1520, 13, 1519, 67), (1516, 13, 1515, 66), (1662, 13, 1661, 90), (1508, 13, 1506, 11507), (1531, 13, 1529, 11530), (1551, 13, 1550, 72), (1547, 13, 1546, 71), (1543, 13, 1542, 70), (1559, 13, 1558, 74), (1567, 13, 1566, 76), (1563, 13, 1562, 75), (1555, 13, 1554, 73), (1539, 13, 1538, 69), (1535, 13, 1533, 11534), (1583, 13, 1582, 79), (1595, 13, 1594, 82), (1591, 13, 1590, 81), (1587, 13, 1586, 80), (1579, 13, 1578, 78), (1603, 13, 1602, 84), (1611, 13, 1610, 86), (1607, 13, 1606, 85), (1599, 13, 1598, 83), (1623, 13, 1622, 88), (1619, 13, 1618, 87), (1571, 13, 1569, 11570), (1615, 13, 1613, 11614), (1627, 13, 1625, 11626), (1631, 13, 1629, 11630), (1635, 13, 1633, 11634), (1639, 13, 1637, 11638), (1647, 13, 1646, 89), (1643, 13, 1641, 11642), (1651, 13, 1649, 11650), (1658, 13, 1657, 0), (1655, 13, 1653, 11654), (1669, 13, 1668, 0)]
def am_mi5 : List am_MI := [(12, ⟨"MoodSlipsModel", "followsNumber", "(I)Z"⟩, prog_14_method_77_code, 2, (some (.boolean)), 1, 1), (12, ⟨"MoodSlipsModel", "between", "(III)I"⟩, prog_14_method_78_code, 6, (some (.int)), 3, 1), (12, ⟨"MoodSlipsModel", "says", "(IIII)I"⟩, prog_14_method_79_code, 5, (some (.int)), 4, 1), (12, ⟨"MoodSlipsModel", "all", "(II)I"⟩, prog_14_method_80_code, 5, (some (.int)), 2, 1), (12, ⟨"MoodSlipsModel", "otherwise", "(I)I"⟩, prog_14_method_81_code, 2, (some (.int)), 1, 1), (12, ⟨"MoodSlipsModel", "tellsNot", "(II)V"⟩, prog_14_method_82_code, 4, none, 2, 1), (12, ⟨"MoodSlipsModel", "leadsTo", "(II)Z"⟩, prog_14_method_83_code, 3, (some (.boolean)), 2, 1), (12, ⟨"MoodSlipsModel", "square", "(II)I"⟩, prog_14_method_84_code, 9, (some (.int)), 2, 1), (12, ⟨"MoodSlipsModel", "laysMeets", "()V"⟩, prog_14_method_85_code, 6, none, 0, 1), (12, ⟨"MoodSlipsModel", "canMeet", "(III)Z"⟩, prog_14_method_86_code, 9, (some (.boolean)), 3, 1), (12, ⟨"MoodSlipsModel", "laysWorld", "()V"⟩, prog_14_method_87_code, 4, none, 0, 1), (12, ⟨"MoodSlipsModel", "world", "(II)I"⟩, prog_14_method_88_code, 7, (some (.int)), 2, 1), (12, ⟨"MoodSlipsModel", "name", "(III)I"⟩, prog_14_method_89_code, 7, (some (.int)), 3, 1), (12, ⟨"MoodSlipsModel", "subject", "(I)I"⟩, prog_14_method_90_code, 1, (some (.int)), 1, 0), (12, ⟨"MoodSlipsModel", "predicate", "(I)I"⟩, prog_14_method_91_code, 1, (some (.int)), 1, 0), (12, ⟨"MoodSlipsModel", "figure", "(II)I"⟩, prog_14_method_92_code, 5, (some (.int)), 2, 0), (12, ⟨"MoodSlipsModel", "middle", "(II)I"⟩, prog_14_method_93_code, 2, (some (.int)), 2, 0), (12, ⟨"MoodSlipsModel", "otherOf", "(II)I"⟩, prog_14_method_94_code, 2, (some (.int)), 2, 0), (12, ⟨"MoodSlipsModel", "concludes", "(II)I"⟩, prog_14_method_95_code, 5, (some (.int)), 2, 1), (12, ⟨"MoodSlipsModel", "pair", "(III)I"⟩, prog_14_method_96_code, 7, (some (.int)), 3, 1), (12, ⟨"MoodSlipsModel", "isNegative", "(I)Z"⟩, prog_14_method_97_code, 1, (some (.boolean)), 1, 0), (12, ⟨"MoodSlipsModel", "isSpread", "(II)Z"⟩, prog_14_method_98_code, 2, (some (.boolean)), 2, 0), (12, ⟨"MoodSlipsModel", "wrong", "(III)I"⟩, prog_14_method_99_code, 11, (some (.int)), 3, 1), (12, ⟨"MoodSlipsModel", "concluded", "(II)I"⟩, prog_14_method_100_code, 6, (some (.int)), 2, 1), (12, ⟨"MoodSlipsModel", "derives", "()I"⟩, prog_14_method_101_code, 6, (some (.int)), 0, 1), (12, ⟨"MoodSlipsModel", "isSimple", "(III)Z"⟩, prog_14_method_102_code, 3, (some (.boolean)), 3, 0), (12, ⟨"MoodSlipsModel", "derived", "(III)I"⟩, prog_14_method_103_code, 4, (some (.int)), 3, 1), (12, ⟨"MoodSlipsModel", "by", "(IIII)I"⟩, prog_14_method_104_code, 8, (some (.int)), 4, 1), (12, ⟨"MoodSlipsModel", "derive", "(I)I"⟩, prog_14_method_105_code, 5, (some (.int)), 1, 1), (12, ⟨"MoodSlipsModel", "bounds", "()V"⟩, prog_14_method_106_code, 3, none, 0, 1), (12, ⟨"MoodSlipsModel", "binds", "(Z)V"⟩, prog_14_method_107_code, 4, none, 1, 1), (12, ⟨"MoodSlipsModel", "posit", "()I"⟩, prog_14_method_108_code, 1, (some (.int)), 0, 1), (12, ⟨"MoodSlipsModel", "propose", "()I"⟩, prog_14_method_109_code, 3, (some (.int)), 0, 1), (12, ⟨"MoodSlipsModel", "bound", "(I)I"⟩, prog_14_method_110_code, 2, (some (.int)), 1, 1), (12, ⟨"MoodSlipsModel", "draws", "(I)I"⟩, prog_14_method_111_code, 2, (some (.int)), 1, 1), (12, ⟨"MoodSlipsModel", "riddles", "(I)V"⟩, prog_14_method_112_code, 3, none, 1, 1), (12, ⟨"MoodSlipsModel", "followsMood", "(I)I"⟩, prog_14_method_113_code, 4, (some (.int)), 1, 1), (12, ⟨"MoodSlipsModel", "riddle", "(II)I"⟩, prog_14_method_114_code, 8, (some (.int)), 2, 1), (12, ⟨"MoodSlipsModel", "drawn", "(II)I"⟩, prog_14_method_115_code, 3, (some (.int)), 2, 1), (12, ⟨"MoodSlipsModel", "count", "(I)I"⟩, prog_14_method_116_code, 2, (some (.int)), 1, 1), (12, ⟨"MoodSlipsModel", "status", "()I"⟩, prog_14_method_117_code, 1, (some (.int)), 0, 1), (13, ⟨"MoodSlipsLaw", "law", "([I)Z"⟩, code, 4, (some (.boolean)), 1, 0)]
def am_mp5 : List (Nat × Nat × Nat × Nat) := [(1673, 13, 1672, 91), (1666, 13, 1664, 11665), (1677, 13, 1675, 11676), (1681, 13, 1679, 11680), (1693, 13, 1692, 93), (1697, 13, 1696, 94), (1689, 13, 1688, 92), (1685, 13, 1683, 11684), (1709, 13, 1708, 96), (1713, 13, 1712, 97), (1705, 13, 1704, 95), (1701, 13, 1699, 11700), (1717, 13, 1715, 11716), (1727, 13, 1726, 0), (1730, 13, 1729, 0), (1724, 13, 1723, 0), (1733, 13, 1732, 0), (1740, 13, 1739, 0), (1737, 13, 1736, 98), (1721, 13, 1719, 11720), (1747, 13, 1746, 0), (1750, 13, 1749, 0), (1744, 13, 1742, 11743), (1765, 13, 1764, 100), (1761, 13, 1760, 99), (1757, 13, 1756, 0), (1754, 13, 1752, 11753), (1769, 13, 1767, 11768), (1773, 13, 1771, 11772), (1789, 13, 1788, 102), (1781, 13, 1780, 101), (1777, 13, 1775, 11776), (1785, 13, 1783, 11784), (1793, 13, 1791, 11792), (1801, 13, 1800, 103), (1808, 13, 1807, 104), (1812, 13, 1811, 105), (1797, 13, 1795, 11796), (1816, 13, 1814, 11815), (1820, 13, 1818, 11819), (1824, 13, 1822, 11823), (0, 0, 0, 0)]
def am_mi : List am_MI := am_mi0 ++ (am_mi1 ++ (am_mi2 ++ (am_mi3 ++ (am_mi4 ++ (am_mi5)))))
def am_md : am_MI := (0, ⟨"", "", ""⟩, code, 0, none, 0, 9)
def am_m (j : Nat) : am_MI := am_mi.getD j am_md
/-- the tables' words that every state keeps -/
def am_TBL : List Cond := lw_tbl.filter goodWord
def am_wat (i : Nat) (w : Cond) : Bool := decide (tables_1[i]? = some w) && goodWord w
theorem am_wat_in {i : Nat} {w : Cond} (h : am_wat i w = true) : w ∈ am_TBL := by
  simp only [am_wat, Bool.and_eq_true, decide_eq_true_eq] at h
  exact List.mem_filter.mpr ⟨List.mem_append_right _ (List.mem_of_getElem? h.1), h.2⟩
def am_sat (i : Nat) (y : MethodName) : Bool := decide ((lw_privs[i]?).map (fun q => q.1) = some y)
theorem am_sat_in {i : Nat} {y : MethodName} (h : am_sat i y = true) : Cond.selects y.cls y y ∈ am_TBL := by
  simp only [am_sat, decide_eq_true_eq] at h
  cases hq : lw_privs[i]? with
  | none => rw [hq] at h; cases h
  | some q =>
    rw [hq] at h
    cases h
    exact List.mem_filter.mpr ⟨List.mem_append_left _ (List.mem_map.mpr ⟨q, List.mem_of_getElem? hq, rfl⟩), rfl⟩
def am_miok (q : am_MI × (Nat × Nat × Nat × Nat)) : Bool :=
  let y := q.1.2.1
  q.1.2.1.cls == "MoodSlipsLaw" || (am_wat q.2.2.1 (.initialized y.cls) && decide (am_own q.1.1 = y.cls) && decide (q.1.2.2.2.1 ≤ 20) && plainName y.cls
  && decide (y.cls ≠ "java/lang/invoke/MethodHandle" ∧ y.cls ≠ "java/lang/invoke/VarHandle") && decide ((parseMethodDescriptor y.desc).map (fun d => d.parameters.length) = some q.1.2.2.2.2.2.1) &&
  (if q.1.2.2.2.2.2.2 = 0 then am_wat q.2.2.2.1 (.static y) else if q.1.2.2.2.2.2.2 = 1 then am_wat q.2.2.2.1 (.instanceMethod y) && (if q.2.2.2.2 < 10000 then am_sat q.2.2.2.2 y else am_wat (q.2.2.2.2 - 10000) (.selects y.cls y y)) else am_wat q.2.2.2.1 (.instanceMethod y) && decide (y.name = "<init>")))
theorem am_fl_ok : am_fl.all (fun q => am_wat q.2.2.2.2 (.fieldLink (am_own q.1) q.2.1 (am_cl3 q.2.2.1).1 ((am_cl3 q.2.2.1).2.1 q.2.2.2.1).2.1 ((am_cl3 q.2.2.1).2.1 q.2.2.2.1).2.2.1) && decide (q.2.2.2.1 < (am_cl3 q.2.2.1).2.2) && decide (((am_cl3 q.2.2.1).2.1 q.2.2.2.1).1 = (am_cl3 q.2.2.1).1) && decide (q.2.2.1 < 13)) = true := by decide +kernel
theorem am_ml_ok : am_ml.all (fun q => am_wat q.2.2.2 (.methodLink (am_own q.1) q.2.1 (am_m q.2.2.1).2.1)) = true := by decide +kernel
def am_nw (q : Nat × Nat × Nat × Nat) : Cond := .methodLinkNest (am_own q.1) q.2.1 (am_m q.2.2.1).2.1 "MoodSlips"
theorem am_mn_ok : am_mn.all (fun q => decide (tables_1[q.2.2.2]? = some (am_nw q))) = true := by decide +kernel
theorem am_ol_ok : am_ol.all (fun q => am_wat q.2.2 (.methodLink (am_own q.1) q.2.1 Lib.objectInit)) = true := by decide +kernel
theorem am_al_ok : am_al.all (fun q => am_wat q.2.2 (.methodLink (am_own q.1) q.2.1 arraycopyName)) = true := by decide +kernel
def am_sname (w : Nat) : MethodName := if w = 0 then ⟨"java/lang/String", "length", "()I"⟩ else ⟨"java/lang/String", "charAt", "(I)C"⟩
theorem am_sl2_ok : am_sl2.all (fun q => am_wat q.2.2.2 (.methodLink (am_own q.1) q.2.1 (am_sname q.2.2.1))) = true := by decide +kernel
def am_xname (w : Nat) : MethodName := if w = 0 then Lib.Math.max.name else Lib.Math.min.name
theorem am_xl_ok : am_xl.all (fun q => am_wat q.2.2.2 (.methodLink (am_own q.1) q.2.1 (am_xname q.2.2.1))) = true := by decide +kernel
theorem am_kl2_ok : am_kl2.all (fun q => am_wat q.2.2.2 (.classLink (am_own q.1) q.2.1 (am_cl3 q.2.2.1).1) && decide (q.2.2.1 < 13)) = true := by decide +kernel
theorem am_il_ok : am_il.all (fun q => am_wat q.2.2.2 (.constant (am_own q.1) q.2.1 (Int32.ofInt q.2.2.1))) = true := by decide +kernel
theorem am_jl_ok : am_jl.all (fun q => am_wat q.2.2.2 (.constantLong (am_own q.1) q.2.1 (Int64.ofInt q.2.2.1))) = true := by decide +kernel
def am_gname (n : Nat) : String := if n = 1 then "PATTERNS" else "NO_REGIONS"
def am_gw (q : Nat × Nat × Nat × Nat × Nat) : Cond := .fieldLinkNest (am_own q.1) q.2.1 "MoodSlips" (am_gname q.2.2.1) "[J" "MoodSlips"
theorem am_gl_ok : am_gl.all (fun q => if q.2.2.2.1 = 0 then am_wat q.2.2.2.2 (.fieldLink (am_own q.1) q.2.1 "MoodSlips" (am_gname q.2.2.1) "[J") else decide (tables_1[q.2.2.2.2]? = some (am_gw q))) = true := by decide +kernel
/-- int 0, boolean 1, a reference 2 -/
def am_fk (c k : Nat) : Nat := match am_ty c k with
  | .int => 0
  | .boolean => 1
  | .object _ => 2
  | .array _ => 2
  | _ => 9
def am_swl (pc : Nat) (lo : Int) (offs : List Int) : List (Int × Int) := (offs.zipIdx).map (fun q => (lo + (q.2 : Int), (pc : Int) + q.1))
/-- may the instruction ri of the bytes stand for i? -/
def am_ok (o : Nat) (ini : Bool) (rt : Option FieldType) (pc : Nat) (ri : Instr) (len : Nat) (i : Instr) (x : Nat) : Bool :=
  match i with
  | .iconst v => decide (ri = .iconst v ∧ len = 1) || decide (ri = .bipush v ∧ (Int8.ofInt v).toInt32 = Int32.ofInt v ∧ len = 2) || decide (ri = .sipush v ∧ (Int16.ofInt v).toInt32 = Int32.ofInt v ∧ len = 3) || am_il.any (fun q => decide (q.1 = o ∧ q.2.2.1 = v ∧ ((ri = .ldc q.2.1 ∧ len = 2) ∨ (ri = .ldc_w q.2.1 ∧ len = 3))))
  | .bipush v => decide (ri = .lconst 0 ∧ v = 0 ∧ len = 1) || decide (ri = .lconst 1 ∧ v = 1 ∧ len = 1) || am_jl.any (fun q => decide (q.1 = o ∧ q.2.2.1 = v ∧ ri = .ldc2_w q.2.1 ∧ len = 3))
  | .ldc n => am_tl.any (fun q => decide (q.1 = o ∧ q.2.2.1 = n ∧ ri = .ldc q.2.1 ∧ len = 2)) || am_gl.any (fun q => decide (q.1 = o ∧ q.2.2.1 = n ∧ ri = .getstatic q.2.1 ∧ len = 3))
  | .iload n => decide (ri = .iload n ∧ len = 2) || decide (n < 4 ∧ ri = .iload_n (Fin.ofNat 4 n) ∧ len = 1)
  | .lload n => decide (ri = .lload n ∧ len = 2) || decide (n < 4 ∧ ri = .lload_n (Fin.ofNat 4 n) ∧ len = 1)
  | .aload n => decide (ri = .aload n ∧ len = 2) || decide (n < 4 ∧ ri = .aload_n (Fin.ofNat 4 n) ∧ len = 1)
  | .istore n => decide (ri = .istore n ∧ len = 2) || decide (n < 4 ∧ ri = .istore_n (Fin.ofNat 4 n) ∧ len = 1)
  | .lstore n => decide (ri = .lstore n ∧ len = 2) || decide (n < 4 ∧ ri = .lstore_n (Fin.ofNat 4 n) ∧ len = 1)
  | .astore n => decide (ri = .astore n ∧ len = 2) || decide (n < 4 ∧ ri = .astore_n (Fin.ofNat 4 n) ∧ len = 1)
  | .iinc n c => decide (ri = .iinc n c ∧ len = 3)
  | .aconst_null => decide (ri = .aconst_null ∧ len = 1)
  | .dup => decide (ri = .dup ∧ len = 1)
  | .dup2 => decide (ri = .dup2 ∧ len = 1)
  | .pop => decide (ri = .pop ∧ len = 1)
  | .iadd => decide (ri = .iadd ∧ len = 1)
  | .isub => decide (ri = .isub ∧ len = 1)
  | .imul => decide (ri = .imul ∧ len = 1)
  | .idiv => decide (ri = .idiv ∧ len = 1)
  | .irem => decide (ri = .irem ∧ len = 1)
  | .ineg => decide (ri = .ineg ∧ len = 1)
  | .ishl => decide (ri = .ishl ∧ len = 1)
  | .ishr => decide (ri = .ishr ∧ len = 1)
  | .iushr => decide (ri = .iushr ∧ len = 1)
  | .iand => decide (ri = .iand ∧ len = 1)
  | .ior => decide (ri = .ior ∧ len = 1)
  | .ixor => decide (ri = .ixor ∧ len = 1)
  | .ladd => decide (ri = .ladd ∧ len = 1)
  | .lsub => decide (ri = .lsub ∧ len = 1)
  | .lmul => decide (ri = .lmul ∧ len = 1)
  | .lrem => decide (ri = .lrem ∧ len = 1)
  | .land => decide (ri = .land ∧ len = 1)
  | .lor => decide (ri = .lor ∧ len = 1)
  | .lxor => decide (ri = .lxor ∧ len = 1)
  | .lushr => decide (ri = .lushr ∧ len = 1)
  | .lcmp => decide (ri = .lcmp ∧ len = 1)
  | .i2b => decide (ri = .i2b ∧ len = 1)
  | .i2c => decide (ri = .i2c ∧ len = 1)
  | .i2l => decide (ri = .i2l ∧ len = 1)
  | .l2i => decide (ri = .l2i ∧ len = 1)
  | .iaload => decide (ri = .iaload ∧ len = 1)
  | .baload => decide (ri = .baload ∧ len = 1)
  | .laload => decide (ri = .laload ∧ len = 1)
  | .aaload => decide (ri = .aaload ∧ len = 1)
  | .iastore => decide (ri = .iastore ∧ len = 1)
  | .bastore => decide (ri = .bastore ∧ len = 1)
  | .lastore => decide (ri = .lastore ∧ len = 1)
  | .aastore => decide (ri = .aastore ∧ len = 1)
  | .arraylength => decide (ri = .arraylength ∧ len = 1)
  | .getfield c => am_fl.any (fun q => decide (q.1 = o ∧ q.2.2.1 = c ∧ q.2.2.2.1 = x ∧ ri = .getfield q.2.1)) && decide (len = 3)
  | .putfield c => am_fl.any (fun q => decide (q.1 = o ∧ q.2.2.1 = c ∧ q.2.2.2.1 = x ∧ ri = .putfield q.2.1)) && decide (am_fk c x = 0) && (!((am_cl3 c).2.1 x).2.2.2 || (ini && decide (o = c))) && decide (len = 3)
  | .putstatic c => am_fl.any (fun q => decide (q.1 = o ∧ q.2.2.1 = c ∧ q.2.2.2.1 = x ∧ ri = .putfield q.2.1)) && decide (am_fk c x = 1) && (!((am_cl3 c).2.1 x).2.2.2 || (ini && decide (o = c))) && decide (len = 3)
  | .invokedynamic c => am_fl.any (fun q => decide (q.1 = o ∧ q.2.2.1 = c ∧ q.2.2.2.1 = x ∧ ri = .putfield q.2.1)) && decide (am_fk c x = 2) && (!((am_cl3 c).2.1 x).2.2.2 || (ini && decide (o = c))) && decide (len = 3)
  | .new c => am_kl2.any (fun q => decide (q.1 = o ∧ q.2.2.1 = c ∧ ri = .new q.2.1)) && decide (x = (am_cl3 c).2.2) && decide (len = 3)
  | .newarray t => decide (ri = .newarray t ∧ len = 2)
  | .anewarray c => am_kl2.any (fun q => decide (q.1 = o ∧ q.2.2.1 = c ∧ ri = .anewarray q.2.1)) && decide (c = 6 ∨ c = 2) && decide (len = 3)
  | .invokestatic j => (am_ml.any (fun q => decide (q.1 = o ∧ q.2.2.1 = j ∧ ri = .invokestatic q.2.1)) || am_mn.any (fun q => decide (q.1 = o ∧ q.2.2.1 = j ∧ ri = .invokestatic q.2.1))) && decide ((am_m j).2.2.2.2.2.2 = 0) && decide (x = (am_m j).2.2.2.2.2.1) && decide (j < 291) && decide (len = 3)
  | .invokespecial j => (am_ml.any (fun q => decide (q.1 = o ∧ q.2.2.1 = j ∧ ri = .invokespecial q.2.1)) || am_mn.any (fun q => decide (q.1 = o ∧ q.2.2.1 = j ∧ ri = .invokespecial q.2.1))) && decide ((am_m j).2.2.2.2.2.2 = 2) && decide (x = (am_m j).2.2.2.2.2.1 + 1) && decide (j < 291) && decide (len = 3)
  | .invokeinterface j c => (am_ml.any (fun q => decide (q.1 = o ∧ q.2.2.1 = j ∧ ri = .invokevirtual q.2.1)) || am_mn.any (fun q => decide (q.1 = o ∧ q.2.2.1 = j ∧ ri = .invokevirtual q.2.1))) && decide ((am_m j).2.2.2.2.2.2 = 1) && decide (x = (am_m j).2.2.2.2.2.1 + 1) && decide ((am_m j).1 = c) && decide (c < 13) && decide (j < 291) && decide (len = 3)
  | .monitorenter => am_ol.any (fun q => decide (q.1 = o ∧ ri = .invokespecial q.2.1)) && decide (len = 3)
  | .monitorexit => am_al.any (fun q => decide (q.1 = o ∧ ri = .invokestatic q.2.1)) && decide (len = 3)
  | .saload => am_sl2.any (fun q => decide (q.1 = o ∧ q.2.2.1 = 0 ∧ ri = .invokevirtual q.2.1)) && decide (len = 3)
  | .caload => am_sl2.any (fun q => decide (q.1 = o ∧ q.2.2.1 = 1 ∧ ri = .invokevirtual q.2.1)) && decide (len = 3)
  | .dmul => am_xl.any (fun q => decide (q.1 = o ∧ q.2.2.1 = 0 ∧ ri = .invokestatic q.2.1)) && decide (len = 3)
  | .ddiv => am_xl.any (fun q => decide (q.1 = o ∧ q.2.2.1 = 1 ∧ ri = .invokestatic q.2.1)) && decide (len = 3)
  | .if_icmp c _ => decide (ri = .if_icmp c ((x : Int) - (pc : Int)) ∧ len = 3)
  | .ifCond c _ => decide (ri = .ifCond c ((x : Int) - (pc : Int)) ∧ len = 3)
  | .ifnull _ => decide (ri = .ifnull ((x : Int) - (pc : Int)) ∧ len = 3)
  | .ifnonnull _ => decide (ri = .ifnonnull ((x : Int) - (pc : Int)) ∧ len = 3)
  | .goto _ => decide (ri = .goto ((x : Int) - (pc : Int)) ∧ len = 3)
  | .lookupswitch _ ps => (decide (ri = .tableswitch ((x : Int) - (pc : Int)) (ps.toList.head?.getD (0, 0)).1 ((ps.toList.head?.getD (0, 0)).1 + (ps.toList.length : Int) - 1) (ps.toList.map (fun q => q.2 - (pc : Int))).toArray) && decide (ps.toList.map (fun q => q.1) = (List.range ps.toList.length).map (fun (k : Nat) => (ps.toList.head?.getD (0, 0)).1 + (k : Int)))
      || decide (ri = .lookupswitch ((x : Int) - (pc : Int)) (ps.toList.map (fun q => (q.1, q.2 - (pc : Int)))).toArray) && (ps.toList.map (fun q => (q.1, q.2 - (pc : Int))) |>.zip ((ps.toList.map (fun q => (q.1, q.2 - (pc : Int)))).drop 1)).all (fun (a, next) => a.1 < next.1)) && ps.toList.all (fun q => decide (-1000 ≤ q.1 ∧ q.1 ≤ 1000 ∧ 0 ≤ q.2)) && decide (0 < ps.toList.length)
  | .ireturn => decide (ri = .ireturn ∧ rt = some .int ∧ len = 1)
  | .freturn => decide (ri = .ireturn ∧ rt = some .boolean ∧ len = 1)
  | .lreturn => decide (ri = .lreturn ∧ rt = some .long ∧ len = 1)
  | .areturn => decide (ri = .areturn ∧ len = 1) && (match rt with
    | some (.object _) => true
    | some (.array _) => true
    | _ => false)
  | .return_ => decide (ri = .return_ ∧ rt = none ∧ len = 1)
  | _ => false
def am_chk (bs : ByteArray) (o : Nat) (ini : Bool) (rt : Option FieldType) : Nat → List am_I → Bool
  | _, [] => true
  | pc, q :: is => match q with
    | (.goto_w _, x) => decide (x = pc)
    | (.nop, _) => true
    | (i, x) => match decode bs pc with
      | .ok (ri, len) => am_ok o ini rt pc ri len i x && am_chk bs o ini rt (pc + len) is
      | _ => false
def am_chkm (j : Nat) (t : List (Nat × List am_I)) : Bool :=
  t.all (fun q => am_chk (am_m j).2.2.1 (am_m j).1 (decide ((am_m j).2.2.2.2.2.2 = 2)) (am_m j).2.2.2.2.1 q.1 q.2)

theorem am_mi0_ok : (am_mi0.zip am_mp0).all am_miok = true := by decide +kernel
theorem am_mi1_ok : (am_mi1.zip am_mp1).all am_miok = true := by decide +kernel
theorem am_mi2_ok : (am_mi2.zip am_mp2).all am_miok = true := by decide +kernel
theorem am_mi3_ok : (am_mi3.zip am_mp3).all am_miok = true := by decide +kernel
theorem am_mi4_ok : (am_mi4.zip am_mp4).all am_miok = true := by decide +kernel
theorem am_mi5_ok : (am_mi5.zip am_mp5).all am_miok = true := by decide +kernel
