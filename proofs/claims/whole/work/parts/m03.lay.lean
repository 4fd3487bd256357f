/-! the layout of the one world: id, what it is
  0 CueRolls 
  1 CueRolls$Tape 
  2 CueRolls$RollReader 
  3 CueRolls$PlotReader 
  4 CueRolls$Habits 
  5 CueRolls$Rolls 
  6 CueRolls$Cues 
  7 CueRolls$Orders 
  8 CueRolls$Stage 
  9 CueRolls$Plots 
  10 CueRollsModel 
  11 CueRolls$Tape.bytes ('a', 1, 200)
  12 CueRolls$RollReader.cut ('a', 3, 201)
  13 CueRolls$RollReader.places ('a', 0, 201)
  14 CueRolls$RollReader.cueWords ('a', 0, 12)
  15 CueRolls$RollReader.cues ('a', 3, 24)
  16 CueRolls$RollReader.wordCounts ('a', 0, 12)
  17 CueRolls$RollReader.words ('a', 3, 144)
  18 CueRolls$PlotReader.cut ('a', 3, 201)
  19 CueRolls$PlotReader.places ('a', 0, 201)
  20 CueRolls$PlotReader.parts ('a', 0, 20)
  21 CueRolls$Habits.cut ('a', 3, 201)
  22 CueRolls$Habits.places ('a', 0, 201)
  23 CueRolls$Rolls.sizes ('a', 0, 8)
  24 CueRolls$Rolls.habits ('a', 0, 8)
  25 CueRolls$Rolls.cueWords ('a', 0, 128)
  26 CueRolls$Rolls.cues ('a', 3, 256)
  27 CueRolls$Rolls.wordCounts ('a', 0, 128)
  28 CueRolls$Rolls.words ('a', 3, 1536)
  29 CueRolls$Rolls.listed ('a', 0, 96)
  30 CueRolls$Cues.cueLine ('a', 0, 18)
  31 CueRolls$Cues.endLine ('a', 0, 18)
  32 CueRolls$Cues.costs ('a', 0, 19)
  33 CueRolls$Cues.lost ('a', 2, 96)
  34 CueRolls$Cues.neighbours ('a', 0, 8)
  35 CueRolls$Orders.roll ('a', 0, 8)
  36 CueRolls$Orders.size ('a', 0, 8)
  37 CueRolls$Orders.stride ('a', 0, 8)
  38 CueRolls$Orders.offset ('a', 0, 8)
  39 CueRolls$Orders.follows ('a', 0, 20)
  40 CueRolls$Orders.said ('a', 0, 8)
  41 CueRolls$Orders.toCome ('a', 0, 8)
  42 CueRolls$Orders.heeds ('a', 0, 8)
  43 CueRolls$Orders.ways ('a', 3, 8)
  44 CueRolls$Orders.pairs ('a', 3, 420)
  45 CueRolls$Orders.slots ('a', 4, 0)
  46 CueRolls$Orders.reached ('a', 4, 0)
  47 CueRolls$Stage.play ('a', 0, 96)
  48 CueRolls$Stage.rehearsed ('a', 0, 96)
  49 CueRolls$Stage.waits ('a', 0, 8)
  50 CueRolls$Plots.parts ('a', 0, 80)
  51 CueRolls$Plots.sizes ('a', 0, 4)
  52 CueRolls$Plots.near ('a', 0, 10)
  53 CueRolls$Plots.clashes ('a', 0, 10)
  54 CueRolls$Plots.coats ('a', 0, 10)
  55 CueRollsModel.tape ('a', 1, 200)
  56 CueRollsModel.rollText ('a', 1, 1800)
  57 CueRollsModel.texts ('a', 1, 800)
  58 CueRollsModel.textLong ('a', 0, 4)
  59 CueRollsModel.letters ('a', 0, 128)
  60 CueRollsModel.speechMany ('a', 0, 9)
  61 CueRollsModel.cueWords ('a', 0, 144)
  62 CueRollsModel.words ('a', 0, 144)
  63 CueRollsModel.cueFrom ('a', 0, 288)
  64 CueRollsModel.cueLong ('a', 0, 288)
  65 CueRollsModel.wordFrom ('a', 0, 1728)
  66 CueRollsModel.wordLong ('a', 0, 1728)
  67 CueRollsModel.sceneMany ('a', 0, 5)
  68 CueRollsModel.scenes ('a', 0, 100)
  69 CueRollsModel.habitOf ('a', 0, 8)
  70 CueRollsModel.oneText ('a', 0, 20)
  71 CueRollsModel.otherText ('a', 0, 20)
  72 CueRollsModel.parts ('a', 0, 441)
  73 CueRollsModel.radix ('a', 0, 9)
  74 CueRollsModel.gapsLeft ('a', 0, 180009)
  75 CueRollsModel.gapsSoFar ('a', 0, 180009)
  76 CueRollsModel.waysLeft ('a', 3, 180009)
  77 CueRollsModel.waysSoFar ('a', 3, 180009)
  78 CueRollsModel.play ('a', 0, 96)
  79 CueRollsModel.said ('a', 0, 96)
  80 CueRollsModel.waits ('a', 0, 8)
  81 CueRollsModel.isReady ('a', 2, 8)
  82 CueRollsModel.coat ('a', 0, 10)
  83 CueRolls$Habits.texts[0] ('a', 3, 201)
  84 CueRolls$Habits.texts[1] ('a', 3, 201)
  85 CueRolls$Habits.texts[2] ('a', 3, 201)
  86 CueRolls$Habits.texts[3] ('a', 3, 201)
  87 CueRolls$Habits.texts ('a', 5, 83)
  88 law.out ('a', 3, 1)
  int registers: 0 .keptRolls, 1 .keptPlay, 2 Tape.size, 3 RollReader.at, 4 RollReader.fault, 5 RollReader.items, 6 PlotReader.at, 7 PlotReader.fault, 8 PlotReader.scenes, 9 Habits.at, 10 Habits.fault, 11 Habits.number, 12 Habits.letters, 13 Habits.vowels, 14 Habits.firstLetter, 15 Habits.lettersAhead, 16 Habits.worth, 17 Rolls.speeches, 18 Rolls.number, 19 Rolls.changes, 20 Cues.limit, 21 Orders.among, 22 Orders.states, 23 Orders.known, 24 Orders.knownAt, 25 Orders.pairsKnown, 26 Stage.played, 27 Stage.said, 28 Plots.number, 29 Plots.boys, 30 Model.thrown, 31 Model.length, 32 Model.rolls, 33 Model.plots, 34 Model.habits, 35 Model.begins, 36 Model.ends, 37 Model.at, 38 Model.fault, 39 Model.deep, 40 Model.label, 41 Model.found, 42 Model.hasFound, 43 Model.oneLong, 44 Model.otherLong, 45 Model.limit, 46 Model.stateMany, 47 Model.setNow, 48 Model.playMany, 49 Model.saidMany, 50 Model.boyParts, 51 Model.keptRolls, 52 Model.keptPlay
  long registers: 0 CueRolls$Habits.word
  reference registers: 0 CueRolls$RollReader.row, 1 CueRolls$PlotReader.row, 2 CueRolls$Habits.row, 3 CueRollsModel.text -/
/-- whose a register is: (object, place) -/
def layOwn : Nat → List (Nat × Nat) := fun k => match k with
  | 0 => [(0, 9), (0, 10), (1, 1), (2, 3), (2, 4), (2, 9), (3, 3), (3, 4), (3, 6), (4, 3), (4, 4), (4, 6), (4, 8), (4, 9), (4, 10), (4, 11), (4, 12), (5, 7), (5, 8), (5, 9), (6, 6), (7, 12), (7, 13), (7, 14), (7, 15), (7, 16), (8, 5), (8, 6), (9, 5), (9, 6), (10, 0), (10, 7), (10, 8), (10, 9), (10, 10), (10, 11), (10, 12), (10, 13), (10, 14), (10, 15), (10, 16), (10, 17), (10, 20), (10, 34), (10, 35), (10, 36), (10, 42), (10, 43), (10, 48), (10, 49), (10, 50), (10, 52), (10, 53)]
  | 1 => [(4, 7)]
  | _ => [(2, 2), (3, 2), (4, 2), (10, 6)]