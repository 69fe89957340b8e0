/-! the methods (printed by wip/whole/gen/meth.py) -/
def mi_X1_init : MI := (yX1_init, cX1_init, 1, none, ({ frames := 1, cells := 4, slots := 480, locals := 40 } : Room), 0, 2, 100, 69, 99, 0)
theorem mo_X1_init : okM mi_X1_init = true := by decide +kernel
def mi_X0_init : MI := (yX0_init, cX0_init, 2, none, ({ frames := 2, cells := 25, slots := 1959, locals := 60 } : Room), 0, 2, 93, 68, 92, 0)
theorem mo_X0_init : okM mi_X0_init = true := by decide +kernel
def mi_X1_copyFrom : MI := (yX1_copyFrom, cX1_copyFrom, 2, none, ({ frames := 1, cells := 0, slots := 0, locals := 40 } : Room), 1, 1, 304, 69, 302, 303)
theorem mo_X1_copyFrom : okM mi_X1_copyFrom = true := by decide +kernel
def mi_X0_copyFrom : MI := (yX0_copyFrom, cX0_copyFrom, 3, none, ({ frames := 2, cells := 0, slots := 0, locals := 61 } : Room), 1, 1, 297, 68, 295, 296)
theorem mo_X0_copyFrom : okM mi_X0_copyFrom = true := by decide +kernel
def mi_X0_isPlate : MI := (yX0_isPlate, cX0_isPlate, 2, (some .boolean), ({ frames := 0, cells := 0, slots := 0, locals := 0 } : Room), 1, 1, 350, 68, 348, 349)
theorem mo_X0_isPlate : okM mi_X0_isPlate = true := by decide +kernel
def mi_X0_isWriter : MI := (yX0_isWriter, cX0_isWriter, 2, (some .boolean), ({ frames := 0, cells := 0, slots := 0, locals := 0 } : Room), 1, 1, 374, 68, 372, 373)
theorem mo_X0_isWriter : okM mi_X0_isWriter = true := by decide +kernel
def mi_X0_glassOnDesk : MI := (yX0_glassOnDesk, cX0_glassOnDesk, 1, (some (.object "PlateWriters$Glass")), ({ frames := 1, cells := 0, slots := 0, locals := 21 } : Room), 0, 1, 370, 68, 368, 369)
theorem mo_X0_glassOnDesk : okM mi_X0_glassOnDesk = true := by decide +kernel
def mi_X0_change : MI := (yX0_change, cX0_change, 4, (some .int), ({ frames := 0, cells := 0, slots := 0, locals := 0 } : Room), 2, 1, 309, 68, 307, 308)
theorem mo_X0_change : okM mi_X0_change = true := by decide +kernel
def mi_J7_fill_e525d : MI := (yJ7_fill_e525d, cJ7_fill_e525d, 4, none, ({ frames := 0, cells := 0, slots := 0, locals := 0 } : Room), 2, 0, 335, 77, 334, 0)
theorem mo_J7_fill_e525d : okM mi_J7_fill_e525d = true := by decide +kernel
def mi_J7_fill_53178 : MI := (yJ7_fill_53178, cJ7_fill_53178, 4, none, ({ frames := 0, cells := 0, slots := 0, locals := 0 } : Room), 2, 0, 338, 77, 337, 0)
theorem mo_J7_fill_53178 : okM mi_J7_fill_53178 = true := by decide +kernel
def mi_X1_makeNew : MI := (yX1_makeNew, cX1_makeNew, 1, none, ({ frames := 1, cells := 0, slots := 0, locals := 23 } : Room), 0, 1, 332, 69, 330, 331)
theorem mo_X1_makeNew : okM mi_X1_makeNew = true := by decide +kernel
def mi_X0_addPlate : MI := (yX0_addPlate, cX0_addPlate, 1, (some .int), ({ frames := 2, cells := 0, slots := 0, locals := 43 } : Room), 0, 1, 328, 68, 326, 327)
theorem mo_X0_addPlate : okM mi_X0_addPlate = true := by decide +kernel
def mi_X0_layPlate : MI := (yX0_layPlate, cX0_layPlate, 3, (some .int), ({ frames := 1, cells := 0, slots := 0, locals := 21 } : Room), 1, 1, 346, 68, 344, 345)
theorem mo_X0_layPlate : okM mi_X0_layPlate = true := by decide +kernel
def mi_X0_addWriter : MI := (yX0_addWriter, cX0_addWriter, 2, (some .int), ({ frames := 0, cells := 0, slots := 0, locals := 0 } : Room), 1, 1, 358, 68, 356, 357)
theorem mo_X0_addWriter : okM mi_X0_addWriter = true := by decide +kernel
def mi_X6_isPlace : MI := (yX6_isPlace, cX6_isPlace, 2, (some .boolean), ({ frames := 0, cells := 0, slots := 0, locals := 0 } : Room), 2, 0, 377, 67, 376, 0)
theorem mo_X6_isPlace : okM mi_X6_isPlace = true := by decide +kernel
def mi_X0_isEnough : MI := (yX0_isEnough, cX0_isEnough, 2, (some .boolean), ({ frames := 0, cells := 0, slots := 0, locals := 0 } : Room), 1, 1, 381, 68, 379, 380)
theorem mo_X0_isEnough : okM mi_X0_isEnough = true := by decide +kernel
def mi_J9_max_7cf53 : MI := (yJ9_max_7cf53, cJ9_max_7cf53, 2, (some .int), ({ frames := 0, cells := 0, slots := 0, locals := 0 } : Room), 2, 0, 392, 76, 391, 0)
theorem mo_J9_max_7cf53 : okM mi_J9_max_7cf53 = true := by decide +kernel
def mi_X6_firstNear : MI := (yX6_firstNear, cX6_firstNear, 1, (some .int), ({ frames := 1, cells := 0, slots := 0, locals := 21 } : Room), 1, 0, 389, 67, 388, 0)
theorem mo_X6_firstNear : okM mi_X6_firstNear = true := by decide +kernel
def mi_J9_min_7cf53 : MI := (yJ9_min_7cf53, cJ9_min_7cf53, 2, (some .int), ({ frames := 0, cells := 0, slots := 0, locals := 0 } : Room), 2, 0, 320, 76, 319, 0)
theorem mo_J9_min_7cf53 : okM mi_J9_min_7cf53 = true := by decide +kernel
def mi_X6_lastNear : MI := (yX6_lastNear, cX6_lastNear, 2, (some .int), ({ frames := 1, cells := 0, slots := 0, locals := 21 } : Room), 2, 0, 395, 67, 394, 0)
theorem mo_X6_lastNear : okM mi_X6_lastNear = true := by decide +kernel
def mi_X0_canBeRead : MI := (yX0_canBeRead, cX0_canBeRead, 3, (some .boolean), ({ frames := 1, cells := 0, slots := 0, locals := 21 } : Room), 2, 1, 400, 68, 398, 399)
theorem mo_X0_canBeRead : okM mi_X0_canBeRead = true := by decide +kernel
def mi_J9_abs_0f7a4 : MI := (yJ9_abs_0f7a4, cJ9_abs_0f7a4, 1, (some .int), ({ frames := 0, cells := 0, slots := 0, locals := 0 } : Room), 1, 0, 406, 76, 405, 0)
theorem mo_J9_abs_0f7a4 : okM mi_J9_abs_0f7a4 = true := by decide +kernel
def mi_X0_distance : MI := (yX0_distance, cX0_distance, 4, (some .int), ({ frames := 1, cells := 0, slots := 0, locals := 21 } : Room), 2, 0, 403, 68, 402, 0)
theorem mo_X0_distance : okM mi_X0_distance = true := by decide +kernel
def mi_X0_dimmed : MI := (yX0_dimmed, cX0_dimmed, 5, (some .float), ({ frames := 0, cells := 0, slots := 0, locals := 0 } : Room), 3, 1, 411, 68, 409, 410)
theorem mo_X0_dimmed : okM mi_X0_dimmed = true := by decide +kernel
def mi_X0_mark : MI := (yX0_mark, cX0_mark, 12, (some .int), ({ frames := 2, cells := 0, slots := 0, locals := 44 } : Room), 4, 1, 386, 68, 384, 385)
theorem mo_X0_mark : okM mi_X0_mark = true := by decide +kernel
def mi_X0_writeLetter : MI := (yX0_writeLetter, cX0_writeLetter, 9, (some .int), ({ frames := 3, cells := 0, slots := 0, locals := 75 } : Room), 4, 1, 366, 68, 364, 365)
theorem mo_X0_writeLetter : okM mi_X0_writeLetter = true := by decide +kernel
def mi_X1_isFree : MI := (yX1_isFree, cX1_isFree, 2, (some .boolean), ({ frames := 0, cells := 0, slots := 0, locals := 0 } : Room), 1, 1, 427, 69, 425, 426)
theorem mo_X1_isFree : okM mi_X1_isFree = true := by decide +kernel
def mi_X0_lightAhead : MI := (yX0_lightAhead, cX0_lightAhead, 9, (some .float), ({ frames := 2, cells := 0, slots := 0, locals := 44 } : Room), 2, 1, 431, 68, 429, 430)
theorem mo_X0_lightAhead : okM mi_X0_lightAhead = true := by decide +kernel
def mi_X0_hasRoom : MI := (yX0_hasRoom, cX0_hasRoom, 3, (some .boolean), ({ frames := 3, cells := 0, slots := 0, locals := 72 } : Room), 2, 1, 423, 68, 421, 422)
theorem mo_X0_hasRoom : okM mi_X0_hasRoom = true := by decide +kernel
def mi_X1_promisedPlaces : MI := (yX1_promisedPlaces, cX1_promisedPlaces, 3, (some .int), ({ frames := 0, cells := 0, slots := 0, locals := 0 } : Room), 0, 1, 435, 69, 433, 434)
theorem mo_X1_promisedPlaces : okM mi_X1_promisedPlaces = true := by decide +kernel
def mi_X0_promisePlace : MI := (yX0_promisePlace, cX0_promisePlace, 6, (some .int), ({ frames := 4, cells := 0, slots := 0, locals := 94 } : Room), 3, 1, 419, 68, 417, 418)
theorem mo_X0_promisePlace : okM mi_X0_promisePlace = true := by decide +kernel
def mi_X0_takePromiseBack : MI := (yX0_takePromiseBack, cX0_takePromiseBack, 6, (some .int), ({ frames := 2, cells := 0, slots := 0, locals := 41 } : Room), 2, 1, 443, 68, 441, 442)
theorem mo_X0_takePromiseBack : okM mi_X0_takePromiseBack = true := by decide +kernel
def mi_X0_rubLetter : MI := (yX0_rubLetter, cX0_rubLetter, 6, (some .int), ({ frames := 2, cells := 0, slots := 0, locals := 41 } : Room), 2, 1, 451, 68, 449, 450)
theorem mo_X0_rubLetter : okM mi_X0_rubLetter = true := by decide +kernel
def mi_X0_cleared : MI := (yX0_cleared, cX0_cleared, 2, (some .float), ({ frames := 0, cells := 0, slots := 0, locals := 0 } : Room), 1, 1, 471, 68, 469, 470)
theorem mo_X0_cleared : okM mi_X0_cleared = true := by decide +kernel
def mi_X0_clearedFor : MI := (yX0_clearedFor, cX0_clearedFor, 6, (some .float), ({ frames := 1, cells := 0, slots := 0, locals := 21 } : Room), 2, 1, 467, 68, 466, 1)
theorem mo_X0_clearedFor : okM mi_X0_clearedFor = true := by decide +kernel
def mi_X0_clearFor : MI := (yX0_clearFor, cX0_clearFor, 4, none, ({ frames := 2, cells := 0, slots := 0, locals := 46 } : Room), 2, 1, 463, 68, 462, 0)
theorem mo_X0_clearFor : okM mi_X0_clearFor = true := by decide +kernel
def mi_X0_passHours : MI := (yX0_passHours, cX0_passHours, 3, (some .int), ({ frames := 3, cells := 0, slots := 0, locals := 69 } : Room), 1, 1, 459, 68, 457, 458)
theorem mo_X0_passHours : okM mi_X0_passHours = true := by decide +kernel
def mi_X0_lightLeftBy : MI := (yX0_lightLeftBy, cX0_lightLeftBy, 6, (some .float), ({ frames := 2, cells := 0, slots := 0, locals := 44 } : Room), 3, 1, 600, 68, 598, 599)
theorem mo_X0_lightLeftBy : okM mi_X0_lightLeftBy = true := by decide +kernel
def mi_X0_hoursUntilEnough : MI := (yX0_hoursUntilEnough, cX0_hoursUntilEnough, 4, (some .int), ({ frames := 1, cells := 0, slots := 0, locals := 21 } : Room), 1, 1, 612, 68, 611, 6)
theorem mo_X0_hoursUntilEnough : okM mi_X0_hoursUntilEnough = true := by decide +kernel
def mi_X0_hoursUntilReadable : MI := (yX0_hoursUntilReadable, cX0_hoursUntilReadable, 4, (some .int), ({ frames := 2, cells := 0, slots := 0, locals := 44 } : Room), 1, 1, 608, 68, 606, 607)
theorem mo_X0_hoursUntilReadable : okM mi_X0_hoursUntilReadable = true := by decide +kernel
def mi_X0_placeIs : MI := (yX0_placeIs, cX0_placeIs, 4, (some .boolean), ({ frames := 4, cells := 0, slots := 0, locals := 94 } : Room), 3, 1, 497, 68, 495, 496)
theorem mo_X0_placeIs : okM mi_X0_placeIs = true := by decide +kernel
def mi_X0_placesThat : MI := (yX0_placesThat, cX0_placesThat, 5, (some .int), ({ frames := 5, cells := 0, slots := 0, locals := 117 } : Room), 2, 1, 519, 68, 517, 518)
theorem mo_X0_placesThat : okM mi_X0_placesThat = true := by decide +kernel
def mi_X0_placesOfWriter : MI := (yX0_placesOfWriter, cX0_placesOfWriter, 8, (some .int), ({ frames := 5, cells := 0, slots := 0, locals := 117 } : Room), 2, 1, 509, 68, 507, 508)
theorem mo_X0_placesOfWriter : okM mi_X0_placesOfWriter = true := by decide +kernel
def mi_X1_leastLight : MI := (yX1_leastLight, cX1_leastLight, 3, (some .float), ({ frames := 0, cells := 0, slots := 0, locals := 0 } : Room), 0, 1, 523, 69, 521, 522)
theorem mo_X1_leastLight : okM mi_X1_leastLight = true := by decide +kernel
def mi_X1_sumOfLight : MI := (yX1_sumOfLight, cX1_sumOfLight, 3, (some .float), ({ frames := 0, cells := 0, slots := 0, locals := 0 } : Room), 0, 1, 527, 69, 525, 526)
theorem mo_X1_sumOfLight : okM mi_X1_sumOfLight = true := by decide +kernel
def mi_X2_init : MI := (yX2_init, cX2_init, 2, none, ({ frames := 3, cells := 183, slots := 13783, locals := 81 } : Room), 0, 2, 168, 70, 167, 0)
theorem mo_X2_init : okM mi_X2_init = true := by decide +kernel
def mi_X2_prepare : MI := (yX2_prepare, cX2_prepare, 2, none, ({ frames := 3, cells := 0, slots := 0, locals := 83 } : Room), 1, 1, 293, 70, 291, 292)
theorem mo_X2_prepare : okM mi_X2_prepare = true := by decide +kernel
def mi_X2_keepUnlessError : MI := (yX2_keepUnlessError, cX2_keepUnlessError, 2, (some .int), ({ frames := 1, cells := 0, slots := 0, locals := 21 } : Room), 1, 1, 317, 70, 315, 316)
theorem mo_X2_keepUnlessError : okM mi_X2_keepUnlessError = true := by decide +kernel
def mi_X2_takeBackInto : MI := (yX2_takeBackInto, cX2_takeBackInto, 2, (some .int), ({ frames := 3, cells := 0, slots := 0, locals := 83 } : Room), 1, 1, 701, 70, 699, 700)
theorem mo_X2_takeBackInto : okM mi_X2_takeBackInto = true := by decide +kernel
def mi_X4_init : MI := (yX4_init, cX4_init, 1, none, ({ frames := 1, cells := 1, slots := 80, locals := 40 } : Room), 0, 2, 194, 72, 193, 0)
theorem mo_X4_init : okM mi_X4_init = true := by decide +kernel
def mi_X3_init : MI := (yX3_init, cX3_init, 1, none, ({ frames := 2, cells := 7, slots := 482, locals := 60 } : Room), 0, 2, 188, 71, 187, 0)
theorem mo_X3_init : okM mi_X3_init = true := by decide +kernel
def mi_X3_look : MI := (yX3_look, cX3_look, 1, (some .char), ({ frames := 0, cells := 0, slots := 0, locals := 0 } : Room), 0, 1, 651, 71, 650, 8)
theorem mo_X3_look : okM mi_X3_look = true := by decide +kernel
def mi_X3_reads : MI := (yX3_reads, cX3_reads, 2, (some .boolean), ({ frames := 1, cells := 0, slots := 0, locals := 20 } : Room), 1, 1, 655, 71, 654, 9)
theorem mo_X3_reads : okM mi_X3_reads = true := by decide +kernel
def mi_X3_add : MI := (yX3_add, cX3_add, 3, (some .boolean), ({ frames := 0, cells := 0, slots := 0, locals := 0 } : Room), 2, 1, 659, 71, 658, 10)
theorem mo_X3_add : okM mi_X3_add = true := by decide +kernel
def mi_X3_isDigit : MI := (yX3_isDigit, cX3_isDigit, 1, (some .boolean), ({ frames := 0, cells := 0, slots := 0, locals := 0 } : Room), 1, 0, 666, 71, 665, 0)
theorem mo_X3_isDigit : okM mi_X3_isDigit = true := by decide +kernel
def mi_X3_readFirstDigit : MI := (yX3_readFirstDigit, cX3_readFirstDigit, 1, (some .boolean), ({ frames := 1, cells := 0, slots := 0, locals := 20 } : Room), 0, 1, 663, 71, 662, 11)
theorem mo_X3_readFirstDigit : okM mi_X3_readFirstDigit = true := by decide +kernel
def mi_X3_readNumber : MI := (yX3_readNumber, cX3_readNumber, 1, (some .boolean), ({ frames := 1, cells := 0, slots := 0, locals := 20 } : Room), 0, 1, 674, 71, 673, 13)
theorem mo_X3_readNumber : okM mi_X3_readNumber = true := by decide +kernel
def mi_X3_readPlace : MI := (yX3_readPlace, cX3_readPlace, 1, (some .boolean), ({ frames := 2, cells := 0, slots := 0, locals := 41 } : Room), 0, 1, 670, 71, 669, 12)
theorem mo_X3_readPlace : okM mi_X3_readPlace = true := by decide +kernel
def mi_X3_isLetter : MI := (yX3_isLetter, cX3_isLetter, 1, (some .boolean), ({ frames := 0, cells := 0, slots := 0, locals := 0 } : Room), 1, 0, 681, 71, 680, 0)
theorem mo_X3_isLetter : okM mi_X3_isLetter = true := by decide +kernel
def mi_X3_readLetters : MI := (yX3_readLetters, cX3_readLetters, 1, (some .boolean), ({ frames := 1, cells := 0, slots := 0, locals := 22 } : Room), 0, 1, 678, 71, 677, 14)
theorem mo_X3_readLetters : okM mi_X3_readLetters = true := by decide +kernel
def mi_X3_readFirstNumber : MI := (yX3_readFirstNumber, cX3_readFirstNumber, 2, (some .boolean), ({ frames := 2, cells := 0, slots := 0, locals := 40 } : Room), 0, 1, 685, 71, 684, 15)
theorem mo_X3_readFirstNumber : okM mi_X3_readFirstNumber = true := by decide +kernel
def mi_X3_readOrder : MI := (yX3_readOrder, cX3_readOrder, 2, (some .boolean), ({ frames := 3, cells := 0, slots := 0, locals := 61 } : Room), 0, 1, 647, 71, 646, 7)
theorem mo_X3_readOrder : okM mi_X3_readOrder = true := by decide +kernel
def mi_X3_readPad : MI := (yX3_readPad, cX3_readPad, 2, (some .int), ({ frames := 4, cells := 0, slots := 0, locals := 82 } : Room), 0, 1, 643, 71, 641, 642)
theorem mo_X3_readPad : okM mi_X3_readPad = true := by decide +kernel
def mi_X4_codeIn : MI := (yX4_codeIn, cX4_codeIn, 3, (some .int), ({ frames := 0, cells := 0, slots := 0, locals := 0 } : Room), 2, 0, 626, 72, 625, 0)
theorem mo_X4_codeIn : okM mi_X4_codeIn = true := by decide +kernel
def mi_X4_charactersIn : MI := (yX4_charactersIn, cX4_charactersIn, 4, (some .int), ({ frames := 1, cells := 0, slots := 0, locals := 22 } : Room), 1, 0, 623, 72, 622, 0)
theorem mo_X4_charactersIn : okM mi_X4_charactersIn = true := by decide +kernel
def mi_X4_append : MI := (yX4_append, cX4_append, 5, (some .int), ({ frames := 2, cells := 0, slots := 0, locals := 45 } : Room), 1, 1, 620, 72, 618, 619)
theorem mo_X4_append : okM mi_X4_append = true := by decide +kernel
def mi_X4_empty : MI := (yX4_empty, cX4_empty, 2, (some .int), ({ frames := 0, cells := 0, slots := 0, locals := 0 } : Room), 0, 1, 635, 72, 633, 634)
theorem mo_X4_empty : okM mi_X4_empty = true := by decide +kernel
def mi_X5_init : MI := (yX5_init, cX5_init, 1, none, ({ frames := 2, cells := 6, slots := 604, locals := 60 } : Room), 0, 2, 256, 73, 255, 0)
theorem mo_X5_init : okM mi_X5_init = true := by decide +kernel
def mi_X5_lettersSpoiled : MI := (yX5_lettersSpoiled, cX5_lettersSpoiled, 5, (some .int), ({ frames := 3, cells := 0, slots := 0, locals := 75 } : Room), 4, 1, 548, 73, 546, 547)
theorem mo_X5_lettersSpoiled : okM mi_X5_lettersSpoiled = true := by decide +kernel
def mi_X5_promisesSpoiled : MI := (yX5_promisesSpoiled, cX5_promisesSpoiled, 8, (some .int), ({ frames := 3, cells := 0, slots := 0, locals := 75 } : Room), 4, 1, 554, 73, 552, 553)
theorem mo_X5_promisesSpoiled : okM mi_X5_promisesSpoiled = true := by decide +kernel
def mi_X5_roomLeft : MI := (yX5_roomLeft, cX5_roomLeft, 5, (some .int), ({ frames := 6, cells := 0, slots := 0, locals := 141 } : Room), 4, 1, 559, 73, 557, 558)
theorem mo_X5_roomLeft : okM mi_X5_roomLeft = true := by decide +kernel
def mi_X5_lookAhead : MI := (yX5_lookAhead, cX5_lookAhead, 5, none, ({ frames := 3, cells := 0, slots := 0, locals := 72 } : Room), 3, 1, 572, 73, 571, 3)
theorem mo_X5_lookAhead : okM mi_X5_lookAhead = true := by decide +kernel
def mi_X5_brightest : MI := (yX5_brightest, cX5_brightest, 5, (some .int), ({ frames := 1, cells := 0, slots := 0, locals := 21 } : Room), 1, 1, 578, 73, 577, 4)
theorem mo_X5_brightest : okM mi_X5_brightest = true := by decide +kernel
def mi_X5_brightestOf : MI := (yX5_brightestOf, cX5_brightestOf, 3, (some .int), ({ frames := 4, cells := 0, slots := 0, locals := 96 } : Room), 2, 1, 568, 73, 566, 567)
theorem mo_X5_brightestOf : okM mi_X5_brightestOf = true := by decide +kernel
def mi_X5_lookAround : MI := (yX5_lookAround, cX5_lookAround, 6, none, ({ frames := 4, cells := 0, slots := 0, locals := 96 } : Room), 2, 1, 590, 73, 589, 5)
theorem mo_X5_lookAround : okM mi_X5_lookAround = true := by decide +kernel
def mi_X5_lettersUntilFull : MI := (yX5_lettersUntilFull, cX5_lettersUntilFull, 6, (some .int), ({ frames := 5, cells := 0, slots := 0, locals := 121 } : Room), 3, 1, 586, 73, 584, 585)
theorem mo_X5_lettersUntilFull : okM mi_X5_lettersUntilFull = true := by decide +kernel
def mi_X6_init : MI := (yX6_init, cX6_init, 2, none, ({ frames := 4, cells := 279, slots := 20794, locals := 102 } : Room), 0, 2, 85, 67, 84, 0)
theorem mo_X6_init : okM mi_X6_init = true := by decide +kernel
def mi_X6_set : MI := (yX6_set, cX6_set, 3, (some .int), ({ frames := 4, cells := 0, slots := 0, locals := 104 } : Room), 2, 1, 289, 67, 287, 288)
theorem mo_X6_set : okM mi_X6_set = true := by decide +kernel
def mi_X6_plate : MI := (yX6_plate, cX6_plate, 1, (some .int), ({ frames := 4, cells := 0, slots := 0, locals := 104 } : Room), 0, 1, 324, 67, 322, 323)
theorem mo_X6_plate : okM mi_X6_plate = true := by decide +kernel
def mi_X6_lay : MI := (yX6_lay, cX6_lay, 2, (some .int), ({ frames := 4, cells := 0, slots := 0, locals := 104 } : Room), 1, 1, 342, 67, 340, 341)
theorem mo_X6_lay : okM mi_X6_lay = true := by decide +kernel
def mi_X6_writer : MI := (yX6_writer, cX6_writer, 2, (some .int), ({ frames := 4, cells := 0, slots := 0, locals := 104 } : Room), 1, 1, 354, 67, 352, 353)
theorem mo_X6_writer : okM mi_X6_writer = true := by decide +kernel
def mi_X6_write : MI := (yX6_write, cX6_write, 5, (some .int), ({ frames := 4, cells := 0, slots := 0, locals := 104 } : Room), 4, 1, 362, 67, 360, 361)
theorem mo_X6_write : okM mi_X6_write = true := by decide +kernel
def mi_X6_promise : MI := (yX6_promise, cX6_promise, 4, (some .int), ({ frames := 5, cells := 0, slots := 0, locals := 119 } : Room), 3, 1, 415, 67, 413, 414)
theorem mo_X6_promise : okM mi_X6_promise = true := by decide +kernel
def mi_X6_takeBack : MI := (yX6_takeBack, cX6_takeBack, 3, (some .int), ({ frames := 4, cells := 0, slots := 0, locals := 104 } : Room), 2, 1, 439, 67, 437, 438)
theorem mo_X6_takeBack : okM mi_X6_takeBack = true := by decide +kernel
def mi_X6_rub : MI := (yX6_rub, cX6_rub, 3, (some .int), ({ frames := 4, cells := 0, slots := 0, locals := 104 } : Room), 2, 1, 447, 67, 445, 446)
theorem mo_X6_rub : okM mi_X6_rub = true := by decide +kernel
def mi_X6_pass : MI := (yX6_pass, cX6_pass, 2, (some .int), ({ frames := 4, cells := 0, slots := 0, locals := 104 } : Room), 1, 1, 455, 67, 453, 454)
theorem mo_X6_pass : okM mi_X6_pass = true := by decide +kernel
def mi_X6_bitsOfFloat : MI := (yX6_bitsOfFloat, cX6_bitsOfFloat, 4, (some .int), ({ frames := 0, cells := 0, slots := 0, locals := 0 } : Room), 1, 0, 480, 67, 479, 0)
theorem mo_X6_bitsOfFloat : okM mi_X6_bitsOfFloat = true := by decide +kernel
def mi_X6_at : MI := (yX6_at, cX6_at, 6, (some .int), ({ frames := 4, cells := 0, slots := 0, locals := 94 } : Room), 3, 1, 475, 67, 473, 474)
theorem mo_X6_at : okM mi_X6_at = true := by decide +kernel
def mi_X6_columnsThat : MI := (yX6_columnsThat, cX6_columnsThat, 6, (some .int), ({ frames := 5, cells := 0, slots := 0, locals := 117 } : Room), 3, 1, 493, 67, 492, 2)
theorem mo_X6_columnsThat : okM mi_X6_columnsThat = true := by decide +kernel
def mi_X6_longestRun : MI := (yX6_longestRun, cX6_longestRun, 4, (some .int), ({ frames := 1, cells := 0, slots := 0, locals := 21 } : Room), 1, 0, 500, 67, 499, 0)
theorem mo_X6_longestRun : okM mi_X6_longestRun = true := by decide +kernel
def mi_X6_row : MI := (yX6_row, cX6_row, 4, (some .int), ({ frames := 6, cells := 0, slots := 0, locals := 142 } : Room), 2, 1, 489, 67, 487, 488)
theorem mo_X6_row : okM mi_X6_row = true := by decide +kernel
def mi_X6_of : MI := (yX6_of, cX6_of, 3, (some .int), ({ frames := 6, cells := 0, slots := 0, locals := 144 } : Room), 2, 1, 504, 67, 502, 503)
theorem mo_X6_of : okM mi_X6_of = true := by decide +kernel
def mi_X6_ofPlate : MI := (yX6_ofPlate, cX6_ofPlate, 4, (some .int), ({ frames := 6, cells := 0, slots := 0, locals := 141 } : Room), 2, 1, 514, 67, 512, 513)
theorem mo_X6_ofPlate : okM mi_X6_ofPlate = true := by decide +kernel
def mi_X6_count : MI := (yX6_count, cX6_count, 2, (some .int), ({ frames := 0, cells := 0, slots := 0, locals := 0 } : Room), 1, 1, 531, 67, 529, 530)
theorem mo_X6_count : okM mi_X6_count = true := by decide +kernel
def mi_X6_bitsOfMean : MI := (yX6_bitsOfMean, cX6_bitsOfMean, 5, (some .long), ({ frames := 0, cells := 0, slots := 0, locals := 0 } : Room), 1, 0, 539, 67, 538, 0)
theorem mo_X6_bitsOfMean : okM mi_X6_bitsOfMean = true := by decide +kernel
def mi_X6_mean : MI := (yX6_mean, cX6_mean, 5, (some .long), ({ frames := 2, cells := 0, slots := 0, locals := 41 } : Room), 0, 1, 535, 67, 533, 534)
theorem mo_X6_mean : okM mi_X6_mean = true := by decide +kernel
def mi_X6_ifWritten : MI := (yX6_ifWritten, cX6_ifWritten, 7, (some .int), ({ frames := 7, cells := 0, slots := 0, locals := 165 } : Room), 4, 1, 544, 67, 542, 543)
theorem mo_X6_ifWritten : okM mi_X6_ifWritten = true := by decide +kernel
def mi_X6_bestPlace : MI := (yX6_bestPlace, cX6_bestPlace, 2, (some .int), ({ frames := 5, cells := 0, slots := 0, locals := 118 } : Room), 0, 1, 564, 67, 562, 563)
theorem mo_X6_bestPlace : okM mi_X6_bestPlace = true := by decide +kernel
def mi_X6_fills : MI := (yX6_fills, cX6_fills, 3, (some .int), ({ frames := 6, cells := 0, slots := 0, locals := 146 } : Room), 1, 1, 582, 67, 580, 581)
theorem mo_X6_fills : okM mi_X6_fills = true := by decide +kernel
def mi_X6_whoDims : MI := (yX6_whoDims, cX6_whoDims, 8, (some .int), ({ frames := 3, cells := 0, slots := 0, locals := 69 } : Room), 2, 1, 596, 67, 594, 595)
theorem mo_X6_whoDims : okM mi_X6_whoDims = true := by decide +kernel
def mi_X6_readableIn : MI := (yX6_readableIn, cX6_readableIn, 2, (some .int), ({ frames := 3, cells := 0, slots := 0, locals := 67 } : Room), 1, 1, 604, 67, 602, 603)
theorem mo_X6_readableIn : okM mi_X6_readableIn = true := by decide +kernel
def mi_X6_put : MI := (yX6_put, cX6_put, 3, (some .int), ({ frames := 3, cells := 0, slots := 0, locals := 69 } : Room), 1, 1, 616, 67, 614, 615)
theorem mo_X6_put : okM mi_X6_put = true := by decide +kernel
def mi_X6_wipe : MI := (yX6_wipe, cX6_wipe, 1, (some .int), ({ frames := 1, cells := 0, slots := 0, locals := 21 } : Room), 0, 1, 631, 67, 629, 630)
theorem mo_X6_wipe : okM mi_X6_wipe = true := by decide +kernel
def mi_X6_fault : MI := (yX6_fault, cX6_fault, 1, (some .int), ({ frames := 5, cells := 0, slots := 0, locals := 103 } : Room), 0, 1, 639, 67, 637, 638)
theorem mo_X6_fault : okM mi_X6_fault = true := by decide +kernel
def mi_X6_obey : MI := (yX6_obey, cX6_obey, 5, (some .int), ({ frames := 5, cells := 0, slots := 0, locals := 119 } : Room), 1, 1, 693, 67, 692, 16)
theorem mo_X6_obey : okM mi_X6_obey = true := by decide +kernel
def mi_X6_carryOut : MI := (yX6_carryOut, cX6_carryOut, 2, (some .int), ({ frames := 6, cells := 0, slots := 0, locals := 143 } : Room), 0, 1, 689, 67, 687, 688)
theorem mo_X6_carryOut : okM mi_X6_carryOut = true := by decide +kernel
def mi_X6_undo : MI := (yX6_undo, cX6_undo, 1, (some .int), ({ frames := 4, cells := 0, slots := 0, locals := 104 } : Room), 0, 1, 697, 67, 695, 696)
theorem mo_X6_undo : okM mi_X6_undo = true := by decide +kernel
def mi_X6_save : MI := (yX6_save, cX6_save, 2, (some .int), ({ frames := 3, cells := 0, slots := 0, locals := 83 } : Room), 1, 1, 705, 67, 703, 704)
theorem mo_X6_save : okM mi_X6_save = true := by decide +kernel
def mi_X6_restore : MI := (yX6_restore, cX6_restore, 2, (some .int), ({ frames := 4, cells := 0, slots := 0, locals := 104 } : Room), 1, 1, 710, 67, 708, 709)
theorem mo_X6_restore : okM mi_X6_restore = true := by decide +kernel
def mi_X7_init : MI := (yX7_init, cX7_init, 1, none, ({ frames := 1, cells := 5, slots := 14832, locals := 40 } : Room), 0, 2, 715, 74, 714, 0)
theorem mo_X7_init : okM mi_X7_init = true := by decide +kernel
def mi_X7_in : MI := (yX7_in, cX7_in, 6, (some .boolean), ({ frames := 0, cells := 0, slots := 0, locals := 0 } : Room), 3, 0, 770, 74, 769, 0)
theorem mo_X7_in : okM mi_X7_in = true := by decide +kernel
def mi_X7_copies : MI := (yX7_copies, cX7_copies, 4, none, ({ frames := 0, cells := 0, slots := 0, locals := 0 } : Room), 2, 1, 781, 74, 780, 18)
theorem mo_X7_copies : okM mi_X7_copies = true := by decide +kernel
def mi_X7_changes : MI := (yX7_changes, cX7_changes, 2, none, ({ frames := 1, cells := 0, slots := 0, locals := 23 } : Room), 0, 1, 777, 74, 776, 17)
theorem mo_X7_changes : okM mi_X7_changes = true := by decide +kernel
def mi_X7_inkAt : MI := (yX7_inkAt, cX7_inkAt, 3, (some .int), ({ frames := 0, cells := 0, slots := 0, locals := 0 } : Room), 3, 0, 792, 74, 791, 0)
theorem mo_X7_inkAt : okM mi_X7_inkAt = true := by decide +kernel
def mi_X7_lightAt : MI := (yX7_lightAt, cX7_lightAt, 3, (some .int), ({ frames := 0, cells := 0, slots := 0, locals := 0 } : Room), 3, 0, 795, 74, 794, 0)
theorem mo_X7_lightAt : okM mi_X7_lightAt = true := by decide +kernel
def mi_X7_hasLetter : MI := (yX7_hasLetter, cX7_hasLetter, 4, (some .boolean), ({ frames := 1, cells := 0, slots := 0, locals := 22 } : Room), 3, 1, 856, 74, 855, 29)
theorem mo_X7_hasLetter : okM mi_X7_hasLetter = true := by decide +kernel
def mi_X7_promisedTo : MI := (yX7_promisedTo, cX7_promisedTo, 4, (some .int), ({ frames := 1, cells := 0, slots := 0, locals := 22 } : Room), 3, 1, 852, 74, 851, 28)
theorem mo_X7_promisedTo : okM mi_X7_promisedTo = true := by decide +kernel
def mi_X7_clouded : MI := (yX7_clouded, cX7_clouded, 10, (some .float), ({ frames := 0, cells := 0, slots := 0, locals := 0 } : Room), 5, 1, 881, 74, 880, 35)
theorem mo_X7_clouded : okM mi_X7_clouded = true := by decide +kernel
def mi_X7_isBright : MI := (yX7_isBright, cX7_isBright, 3, (some .boolean), ({ frames := 0, cells := 0, slots := 0, locals := 0 } : Room), 2, 1, 860, 74, 859, 30)
theorem mo_X7_isBright : okM mi_X7_isBright = true := by decide +kernel
def mi_X7_ahead : MI := (yX7_ahead, cX7_ahead, 7, (some .float), ({ frames := 2, cells := 0, slots := 0, locals := 45 } : Room), 3, 1, 901, 74, 900, 39)
theorem mo_X7_ahead : okM mi_X7_ahead = true := by decide +kernel
def mi_X7_hasRoom : MI := (yX7_hasRoom, cX7_hasRoom, 4, (some .boolean), ({ frames := 3, cells := 0, slots := 0, locals := 71 } : Room), 3, 1, 897, 74, 896, 38)
theorem mo_X7_hasRoom : okM mi_X7_hasRoom = true := by decide +kernel
def mi_X7_canRead : MI := (yX7_canRead, cX7_canRead, 4, (some .boolean), ({ frames := 2, cells := 0, slots := 0, locals := 45 } : Room), 3, 1, 873, 74, 872, 33)
theorem mo_X7_canRead : okM mi_X7_canRead = true := by decide +kernel
def mi_X7_rooms : MI := (yX7_rooms, cX7_rooms, 5, (some .int), ({ frames := 4, cells := 0, slots := 0, locals := 94 } : Room), 2, 1, 1024, 74, 1023, 53)
theorem mo_X7_rooms : okM mi_X7_rooms = true := by decide +kernel
def mi_X7_looks : MI := (yX7_looks, cX7_looks, 3, none, ({ frames := 3, cells := 0, slots := 0, locals := 68 } : Room), 1, 1, 869, 74, 868, 32)
theorem mo_X7_looks : okM mi_X7_looks = true := by decide +kernel
def mi_X7_spoilt : MI := (yX7_spoilt, cX7_spoilt, 6, (some .int), ({ frames := 3, cells := 0, slots := 0, locals := 68 } : Room), 3, 1, 885, 74, 884, 36)
theorem mo_X7_spoilt : okM mi_X7_spoilt = true := by decide +kernel
def mi_X7_writes : MI := (yX7_writes, cX7_writes, 8, none, ({ frames := 1, cells := 0, slots := 0, locals := 29 } : Room), 5, 1, 877, 74, 876, 34)
theorem mo_X7_writes : okM mi_X7_writes = true := by decide +kernel
def mi_X7_best : MI := (yX7_best, cX7_best, 9, (some .int), ({ frames := 4, cells := 0, slots := 0, locals := 94 } : Room), 2, 1, 1032, 74, 1031, 54)
theorem mo_X7_best : okM mi_X7_best = true := by decide +kernel
def mi_X7_clears : MI := (yX7_clears, cX7_clears, 5, none, ({ frames := 1, cells := 0, slots := 0, locals := 22 } : Room), 2, 1, 942, 74, 941, 46)
theorem mo_X7_clears : okM mi_X7_clears = true := by decide +kernel
def mi_X7_isWriter : MI := (yX7_isWriter, cX7_isWriter, 2, (some .boolean), ({ frames := 1, cells := 0, slots := 0, locals := 25 } : Room), 1, 1, 836, 74, 835, 26)
theorem mo_X7_isWriter : okM mi_X7_isWriter = true := by decide +kernel
def mi_X7_isPlate : MI := (yX7_isPlate, cX7_isPlate, 2, (some .boolean), ({ frames := 1, cells := 0, slots := 0, locals := 25 } : Room), 1, 1, 807, 74, 806, 21)
theorem mo_X7_isPlate : okM mi_X7_isPlate = true := by decide +kernel
def mi_X7_isRow : MI := (yX7_isRow, cX7_isRow, 1, (some .boolean), ({ frames := 1, cells := 0, slots := 0, locals := 25 } : Room), 1, 0, 843, 74, 842, 0)
theorem mo_X7_isRow : okM mi_X7_isRow = true := by decide +kernel
def mi_X7_isThere : MI := (yX7_isThere, cX7_isThere, 3, (some .boolean), ({ frames := 2, cells := 0, slots := 0, locals := 45 } : Room), 2, 1, 840, 74, 839, 27)
theorem mo_X7_isThere : okM mi_X7_isThere = true := by decide +kernel
def mi_X7_spotOf : MI := (yX7_spotOf, cX7_spotOf, 2, (some .int), ({ frames := 0, cells := 0, slots := 0, locals := 0 } : Room), 2, 0, 848, 74, 847, 0)
theorem mo_X7_spotOf : okM mi_X7_spotOf = true := by decide +kernel
def mi_X7_layError : MI := (yX7_layError, cX7_layError, 2, (some .int), ({ frames := 2, cells := 0, slots := 0, locals := 46 } : Room), 1, 1, 803, 74, 802, 20)
theorem mo_X7_layError : okM mi_X7_layError = true := by decide +kernel
def mi_X7_writerError : MI := (yX7_writerError, cX7_writerError, 2, (some .int), ({ frames := 1, cells := 0, slots := 0, locals := 25 } : Room), 1, 1, 819, 74, 818, 23)
theorem mo_X7_writerError : okM mi_X7_writerError = true := by decide +kernel
def mi_X7_writeError : MI := (yX7_writeError, cX7_writeError, 8, (some .int), ({ frames := 3, cells := 0, slots := 0, locals := 67 } : Room), 4, 1, 832, 74, 831, 25)
theorem mo_X7_writeError : okM mi_X7_writeError = true := by decide +kernel
def mi_X7_promiseError : MI := (yX7_promiseError, cX7_promiseError, 4, (some .int), ({ frames := 4, cells := 0, slots := 0, locals := 94 } : Room), 3, 1, 893, 74, 892, 37)
theorem mo_X7_promiseError : okM mi_X7_promiseError = true := by decide +kernel
def mi_X7_rubError : MI := (yX7_rubError, cX7_rubError, 3, (some .int), ({ frames := 3, cells := 0, slots := 0, locals := 67 } : Room), 2, 1, 921, 74, 920, 42)
theorem mo_X7_rubError : okM mi_X7_rubError = true := by decide +kernel
def mi_X7_passError : MI := (yX7_passError, cX7_passError, 2, (some .int), ({ frames := 1, cells := 0, slots := 0, locals := 25 } : Room), 1, 1, 933, 74, 932, 44)
theorem mo_X7_passError : okM mi_X7_passError = true := by decide +kernel
def mi_X7_comes : MI := (yX7_comes, cX7_comes, 3, (some .int), ({ frames := 1, cells := 0, slots := 0, locals := 22 } : Room), 0, 1, 789, 74, 788, 19)
theorem mo_X7_comes : okM mi_X7_comes = true := by decide +kernel
def mi_X7_lays : MI := (yX7_lays, cX7_lays, 3, (some .int), ({ frames := 0, cells := 0, slots := 0, locals := 0 } : Room), 1, 1, 811, 74, 810, 22)
theorem mo_X7_lays : okM mi_X7_lays = true := by decide +kernel
def mi_X7_joins : MI := (yX7_joins, cX7_joins, 3, (some .int), ({ frames := 0, cells := 0, slots := 0, locals := 0 } : Room), 1, 1, 824, 74, 823, 24)
theorem mo_X7_joins : okM mi_X7_joins = true := by decide +kernel
def mi_X7_pens : MI := (yX7_pens, cX7_pens, 5, (some .int), ({ frames := 4, cells := 0, slots := 0, locals := 93 } : Room), 3, 1, 865, 74, 864, 31)
theorem mo_X7_pens : okM mi_X7_pens = true := by decide +kernel
def mi_X7_promisedOn : MI := (yX7_promisedOn, cX7_promisedOn, 4, (some .int), ({ frames := 2, cells := 0, slots := 0, locals := 45 } : Room), 1, 1, 909, 74, 908, 41)
theorem mo_X7_promisedOn : okM mi_X7_promisedOn = true := by decide +kernel
def mi_X7_promises : MI := (yX7_promises, cX7_promises, 3, (some .int), ({ frames := 3, cells := 0, slots := 0, locals := 68 } : Room), 2, 1, 905, 74, 904, 40)
theorem mo_X7_promises : okM mi_X7_promises = true := by decide +kernel
def mi_X7_rubs : MI := (yX7_rubs, cX7_rubs, 4, (some .int), ({ frames := 1, cells := 0, slots := 0, locals := 22 } : Room), 1, 1, 925, 74, 924, 43)
theorem mo_X7_rubs : okM mi_X7_rubs = true := by decide +kernel
def mi_X7_goesOn : MI := (yX7_goesOn, cX7_goesOn, 4, (some .int), ({ frames := 2, cells := 0, slots := 0, locals := 46 } : Room), 1, 1, 938, 74, 937, 45)
theorem mo_X7_goesOn : okM mi_X7_goesOn = true := by decide +kernel
def mi_X7_isValue : MI := (yX7_isValue, cX7_isValue, 2, (some .boolean), ({ frames := 1, cells := 0, slots := 0, locals := 25 } : Room), 2, 0, 766, 74, 765, 0)
theorem mo_X7_isValue : okM mi_X7_isValue = true := by decide +kernel
def mi_X7_set : MI := (yX7_set, cX7_set, 4, (some .int), ({ frames := 2, cells := 0, slots := 0, locals := 46 } : Room), 2, 1, 763, 74, 761, 762)
theorem mo_X7_set : okM mi_X7_set = true := by decide +kernel
def mi_X7_plate : MI := (yX7_plate, cX7_plate, 1, (some .int), ({ frames := 2, cells := 0, slots := 0, locals := 44 } : Room), 0, 1, 785, 74, 783, 784)
theorem mo_X7_plate : okM mi_X7_plate = true := by decide +kernel
def mi_X7_lay : MI := (yX7_lay, cX7_lay, 3, (some .int), ({ frames := 3, cells := 0, slots := 0, locals := 67 } : Room), 1, 1, 799, 74, 797, 798)
theorem mo_X7_lay : okM mi_X7_lay = true := by decide +kernel
def mi_X7_writer : MI := (yX7_writer, cX7_writer, 3, (some .int), ({ frames := 2, cells := 0, slots := 0, locals := 46 } : Room), 1, 1, 815, 74, 813, 814)
theorem mo_X7_writer : okM mi_X7_writer = true := by decide +kernel
def mi_X7_write : MI := (yX7_write, cX7_write, 6, (some .int), ({ frames := 5, cells := 0, slots := 0, locals := 117 } : Room), 4, 1, 828, 74, 826, 827)
theorem mo_X7_write : okM mi_X7_write = true := by decide +kernel
def mi_X7_promise : MI := (yX7_promise, cX7_promise, 5, (some .int), ({ frames := 5, cells := 0, slots := 0, locals := 117 } : Room), 3, 1, 889, 74, 887, 888)
theorem mo_X7_promise : okM mi_X7_promise = true := by decide +kernel
def mi_X7_takeBack : MI := (yX7_takeBack, cX7_takeBack, 4, (some .int), ({ frames := 3, cells := 0, slots := 0, locals := 67 } : Room), 2, 1, 913, 74, 911, 912)
theorem mo_X7_takeBack : okM mi_X7_takeBack = true := by decide +kernel
def mi_X7_rub : MI := (yX7_rub, cX7_rub, 4, (some .int), ({ frames := 4, cells := 0, slots := 0, locals := 89 } : Room), 2, 1, 917, 74, 915, 916)
theorem mo_X7_rub : okM mi_X7_rub = true := by decide +kernel
def mi_X7_pass : MI := (yX7_pass, cX7_pass, 3, (some .int), ({ frames := 3, cells := 0, slots := 0, locals := 69 } : Room), 1, 1, 929, 74, 927, 928)
theorem mo_X7_pass : okM mi_X7_pass = true := by decide +kernel
def mi_X7_flag : MI := (yX7_flag, cX7_flag, 1, (some .int), ({ frames := 0, cells := 0, slots := 0, locals := 0 } : Room), 1, 0, 959, 74, 958, 0)
theorem mo_X7_flag : okM mi_X7_flag = true := by decide +kernel
def mi_Jxf58ca_isNaN_12338 : MI := (yJxf58ca_isNaN_12338, cJxf58ca_isNaN_12338, 1, (some .boolean), ({ frames := 0, cells := 0, slots := 0, locals := 0 } : Room), 1, 0, 952, 79, 951, 0)
theorem mo_Jxf58ca_isNaN_12338 : okM mi_Jxf58ca_isNaN_12338 = true := by decide +kernel
def mi_Jxf58ca_floatToIntBits_5c35a : MI := (yJxf58ca_floatToIntBits_5c35a, cJxf58ca_floatToIntBits_5c35a, 1, (some .int), ({ frames := 1, cells := 0, slots := 0, locals := 40 } : Room), 1, 0, 949, 79, 948, 0)
theorem mo_Jxf58ca_floatToIntBits_5c35a : okM mi_Jxf58ca_floatToIntBits_5c35a = true := by decide +kernel
def mi_X7_at : MI := (yX7_at, cX7_at, 7, (some .int), ({ frames := 4, cells := 0, slots := 0, locals := 94 } : Room), 3, 1, 946, 74, 944, 945)
theorem mo_X7_at : okM mi_X7_at = true := by decide +kernel
def mi_X7_isSo : MI := (yX7_isSo, cX7_isSo, 4, (some .boolean), ({ frames := 4, cells := 0, slots := 0, locals := 94 } : Room), 3, 1, 972, 74, 971, 48)
theorem mo_X7_isSo : okM mi_X7_isSo = true := by decide +kernel
def mi_X7_longestWord : MI := (yX7_longestWord, cX7_longestWord, 6, (some .int), ({ frames := 3, cells := 0, slots := 0, locals := 68 } : Room), 2, 1, 968, 74, 967, 47)
theorem mo_X7_longestWord : okM mi_X7_longestWord = true := by decide +kernel
def mi_X7_row : MI := (yX7_row, cX7_row, 5, (some .int), ({ frames := 5, cells := 0, slots := 0, locals := 117 } : Room), 2, 1, 963, 74, 961, 962)
theorem mo_X7_row : okM mi_X7_row = true := by decide +kernel
def mi_X7_counted : MI := (yX7_counted, cX7_counted, 7, (some .int), ({ frames := 3, cells := 0, slots := 0, locals := 68 } : Room), 2, 1, 980, 74, 979, 49)
theorem mo_X7_counted : okM mi_X7_counted = true := by decide +kernel
def mi_X7_of : MI := (yX7_of, cX7_of, 3, (some .int), ({ frames := 4, cells := 0, slots := 0, locals := 94 } : Room), 2, 1, 976, 74, 974, 975)
theorem mo_X7_of : okM mi_X7_of = true := by decide +kernel
def mi_X7_leastLight : MI := (yX7_leastLight, cX7_leastLight, 5, (some .float), ({ frames := 1, cells := 0, slots := 0, locals := 22 } : Room), 1, 1, 988, 74, 987, 50)
theorem mo_X7_leastLight : okM mi_X7_leastLight = true := by decide +kernel
def mi_X7_allLight : MI := (yX7_allLight, cX7_allLight, 4, (some .float), ({ frames := 1, cells := 0, slots := 0, locals := 22 } : Room), 1, 1, 992, 74, 991, 51)
theorem mo_X7_allLight : okM mi_X7_allLight = true := by decide +kernel
def mi_X7_ofPlate : MI := (yX7_ofPlate, cX7_ofPlate, 5, (some .int), ({ frames := 5, cells := 0, slots := 0, locals := 117 } : Room), 2, 1, 984, 74, 982, 983)
theorem mo_X7_ofPlate : okM mi_X7_ofPlate = true := by decide +kernel
def mi_X7_count : MI := (yX7_count, cX7_count, 2, (some .int), ({ frames := 0, cells := 0, slots := 0, locals := 0 } : Room), 1, 1, 996, 74, 994, 995)
theorem mo_X7_count : okM mi_X7_count = true := by decide +kernel
def mi_Jxe99ae_isNaN_b9ae7 : MI := (yJxe99ae_isNaN_b9ae7, cJxe99ae_isNaN_b9ae7, 2, (some .boolean), ({ frames := 0, cells := 0, slots := 0, locals := 0 } : Room), 1, 0, 1007, 80, 1006, 0)
theorem mo_Jxe99ae_isNaN_b9ae7 : okM mi_Jxe99ae_isNaN_b9ae7 = true := by decide +kernel
def mi_Jxe99ae_doubleToLongBits_ccdee : MI := (yJxe99ae_doubleToLongBits_ccdee, cJxe99ae_doubleToLongBits_ccdee, 2, (some .long), ({ frames := 1, cells := 0, slots := 0, locals := 40 } : Room), 1, 0, 1004, 80, 1003, 0)
theorem mo_Jxe99ae_doubleToLongBits_ccdee : okM mi_Jxe99ae_doubleToLongBits_ccdee = true := by decide +kernel
def mi_X7_mean : MI := (yX7_mean, cX7_mean, 4, (some .long), ({ frames := 2, cells := 0, slots := 0, locals := 61 } : Room), 0, 1, 1000, 74, 998, 999)
theorem mo_X7_mean : okM mi_X7_mean = true := by decide +kernel
def mi_X7_tooDark : MI := (yX7_tooDark, cX7_tooDark, 6, (some .int), ({ frames := 2, cells := 0, slots := 0, locals := 45 } : Room), 2, 1, 1020, 74, 1019, 52)
theorem mo_X7_tooDark : okM mi_X7_tooDark = true := by decide +kernel
def mi_X7_ifWritten : MI := (yX7_ifWritten, cX7_ifWritten, 7, (some .int), ({ frames := 5, cells := 0, slots := 0, locals := 118 } : Room), 4, 1, 1015, 74, 1013, 1014)
theorem mo_X7_ifWritten : okM mi_X7_ifWritten = true := by decide +kernel
def mi_X7_bestPlace : MI := (yX7_bestPlace, cX7_bestPlace, 1, (some .int), ({ frames := 5, cells := 0, slots := 0, locals := 122 } : Room), 0, 1, 1028, 74, 1026, 1027)
theorem mo_X7_bestPlace : okM mi_X7_bestPlace = true := by decide +kernel
def mi_X7_fills : MI := (yX7_fills, cX7_fills, 4, (some .int), ({ frames := 5, cells := 0, slots := 0, locals := 122 } : Room), 1, 1, 1036, 74, 1034, 1035)
theorem mo_X7_fills : okM mi_X7_fills = true := by decide +kernel
def mi_X7_leaves : MI := (yX7_leaves, cX7_leaves, 5, (some .float), ({ frames := 2, cells := 0, slots := 0, locals := 45 } : Room), 2, 1, 1044, 74, 1043, 55)
theorem mo_X7_leaves : okM mi_X7_leaves = true := by decide +kernel
def mi_X7_whoDims : MI := (yX7_whoDims, cX7_whoDims, 7, (some .int), ({ frames := 3, cells := 0, slots := 0, locals := 69 } : Room), 2, 1, 1040, 74, 1038, 1039)
theorem mo_X7_whoDims : okM mi_X7_whoDims = true := by decide +kernel
def mi_X7_areRead : MI := (yX7_areRead, cX7_areRead, 5, (some .boolean), ({ frames := 3, cells := 0, slots := 0, locals := 68 } : Room), 2, 1, 1052, 74, 1051, 56)
theorem mo_X7_areRead : okM mi_X7_areRead = true := by decide +kernel
def mi_X7_readableIn : MI := (yX7_readableIn, cX7_readableIn, 3, (some .int), ({ frames := 4, cells := 0, slots := 0, locals := 92 } : Room), 1, 1, 1048, 74, 1046, 1047)
theorem mo_X7_readableIn : okM mi_X7_readableIn = true := by decide +kernel
def mi_X7_charactersOf : MI := (yX7_charactersOf, cX7_charactersOf, 5, (some .int), ({ frames := 1, cells := 0, slots := 0, locals := 25 } : Room), 1, 0, 1059, 74, 1058, 0)
theorem mo_X7_charactersOf : okM mi_X7_charactersOf = true := by decide +kernel
def mi_X7_put : MI := (yX7_put, cX7_put, 5, (some .int), ({ frames := 2, cells := 0, slots := 0, locals := 49 } : Room), 1, 1, 1056, 74, 1054, 1055)
theorem mo_X7_put : okM mi_X7_put = true := by decide +kernel
def mi_X7_wipe : MI := (yX7_wipe, cX7_wipe, 2, (some .int), ({ frames := 0, cells := 0, slots := 0, locals := 0 } : Room), 0, 1, 1066, 74, 1064, 1065)
theorem mo_X7_wipe : okM mi_X7_wipe = true := by decide +kernel
def mi_X7_isHere : MI := (yX7_isHere, cX7_isHere, 3, (some .boolean), ({ frames := 1, cells := 0, slots := 0, locals := 25 } : Room), 2, 1, 1082, 74, 1081, 59)
theorem mo_X7_isHere : okM mi_X7_isHere = true := by decide +kernel
def mi_X7_takes : MI := (yX7_takes, cX7_takes, 3, (some .boolean), ({ frames := 2, cells := 0, slots := 0, locals := 47 } : Room), 1, 1, 1090, 74, 1089, 61)
theorem mo_X7_takes : okM mi_X7_takes = true := by decide +kernel
def mi_X7_digit : MI := (yX7_digit, cX7_digit, 2, (some .int), ({ frames := 2, cells := 0, slots := 0, locals := 47 } : Room), 0, 1, 1078, 74, 1077, 58)
theorem mo_X7_digit : okM mi_X7_digit = true := by decide +kernel
def mi_X7_number : MI := (yX7_number, cX7_number, 2, (some .int), ({ frames := 3, cells := 0, slots := 0, locals := 68 } : Room), 0, 1, 1094, 74, 1093, 62)
theorem mo_X7_number : okM mi_X7_number = true := by decide +kernel
def mi_X7_readsPlace : MI := (yX7_readsPlace, cX7_readsPlace, 1, (some .boolean), ({ frames := 4, cells := 0, slots := 0, locals := 89 } : Room), 0, 1, 1086, 74, 1085, 60)
theorem mo_X7_readsPlace : okM mi_X7_readsPlace = true := by decide +kernel
def mi_X7_readsLetters : MI := (yX7_readsLetters, cX7_readsLetters, 1, (some .boolean), ({ frames := 2, cells := 0, slots := 0, locals := 47 } : Room), 0, 1, 1098, 74, 1097, 63)
theorem mo_X7_readsLetters : okM mi_X7_readsLetters = true := by decide +kernel
def mi_X7_readsOrder : MI := (yX7_readsOrder, cX7_readsOrder, 1, (some .boolean), ({ frames := 5, cells := 0, slots := 0, locals := 109 } : Room), 0, 1, 1074, 74, 1073, 57)
theorem mo_X7_readsOrder : okM mi_X7_readsOrder = true := by decide +kernel
def mi_X7_fault : MI := (yX7_fault, cX7_fault, 2, (some .int), ({ frames := 6, cells := 0, slots := 0, locals := 129 } : Room), 0, 1, 1070, 74, 1068, 1069)
theorem mo_X7_fault : okM mi_X7_fault = true := by decide +kernel
def mi_X7_orderError : MI := (yX7_orderError, cX7_orderError, 2, (some .int), ({ frames := 5, cells := 0, slots := 0, locals := 117 } : Room), 1, 1, 1107, 74, 1106, 64)
theorem mo_X7_orderError : okM mi_X7_orderError = true := by decide +kernel
def mi_X7_does : MI := (yX7_does, cX7_does, 2, (some .int), ({ frames := 5, cells := 0, slots := 0, locals := 117 } : Room), 1, 1, 1111, 74, 1110, 65)
theorem mo_X7_does : okM mi_X7_does = true := by decide +kernel
def mi_X7_carryOut : MI := (yX7_carryOut, cX7_carryOut, 7, (some .int), ({ frames := 7, cells := 0, slots := 0, locals := 150 } : Room), 0, 1, 1102, 74, 1100, 1101)
theorem mo_X7_carryOut : okM mi_X7_carryOut = true := by decide +kernel
def mi_X7_undo : MI := (yX7_undo, cX7_undo, 1, (some .int), ({ frames := 1, cells := 0, slots := 0, locals := 23 } : Room), 0, 1, 1115, 74, 1113, 1114)
theorem mo_X7_undo : okM mi_X7_undo = true := by decide +kernel
def mi_X7_isSlot : MI := (yX7_isSlot, cX7_isSlot, 1, (some .boolean), ({ frames := 0, cells := 0, slots := 0, locals := 0 } : Room), 1, 0, 1122, 74, 1121, 0)
theorem mo_X7_isSlot : okM mi_X7_isSlot = true := by decide +kernel
def mi_X7_save : MI := (yX7_save, cX7_save, 2, (some .int), ({ frames := 1, cells := 0, slots := 0, locals := 23 } : Room), 1, 1, 1119, 74, 1117, 1118)
theorem mo_X7_save : okM mi_X7_save = true := by decide +kernel
def mi_X7_restore : MI := (yX7_restore, cX7_restore, 2, (some .int), ({ frames := 2, cells := 0, slots := 0, locals := 44 } : Room), 1, 1, 1126, 74, 1124, 1125)
theorem mo_X7_restore : okM mi_X7_restore = true := by decide +kernel
