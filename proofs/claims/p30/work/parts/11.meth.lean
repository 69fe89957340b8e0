/-! the methods (printed by wip/p30/gen/meth.py) -/
def mi_X1_init : MI := (yX1_init, cX1_init, 1, none, ({ frames := 1, cells := 4, slots := 480, locals := 40 } : Room), 0, 2, 37, 10, 36, 0)
theorem mo_X1_init : okM mi_X1_init = true := by decide +kernel
def mi_X0_init : MI := (yX0_init, cX0_init, 2, none, ({ frames := 2, cells := 25, slots := 1959, locals := 60 } : Room), 0, 2, 30, 9, 29, 0)
theorem mo_X0_init : okM mi_X0_init = true := by decide +kernel
def mi_X1_copyFrom : MI := (yX1_copyFrom, cX1_copyFrom, 2, none, ({ frames := 1, cells := 0, slots := 0, locals := 40 } : Room), 1, 1, 233, 10, 231, 232)
theorem mo_X1_copyFrom : okM mi_X1_copyFrom = true := by decide +kernel
def mi_X0_copyFrom : MI := (yX0_copyFrom, cX0_copyFrom, 3, none, ({ frames := 2, cells := 0, slots := 0, locals := 61 } : Room), 1, 1, 226, 9, 224, 225)
theorem mo_X0_copyFrom : okM mi_X0_copyFrom = true := by decide +kernel
def mi_X0_isPlate : MI := (yX0_isPlate, cX0_isPlate, 2, (some .boolean), ({ frames := 0, cells := 0, slots := 0, locals := 0 } : Room), 1, 1, 299, 9, 297, 298)
theorem mo_X0_isPlate : okM mi_X0_isPlate = true := by decide +kernel
def mi_X0_isWriter : MI := (yX0_isWriter, cX0_isWriter, 2, (some .boolean), ({ frames := 0, cells := 0, slots := 0, locals := 0 } : Room), 1, 1, 327, 9, 325, 326)
theorem mo_X0_isWriter : okM mi_X0_isWriter = true := by decide +kernel
def mi_X0_glassOnDesk : MI := (yX0_glassOnDesk, cX0_glassOnDesk, 1, (some (.object "PlateWriters$Glass")), ({ frames := 1, cells := 0, slots := 0, locals := 21 } : Room), 0, 1, 323, 9, 321, 322)
theorem mo_X0_glassOnDesk : okM mi_X0_glassOnDesk = true := by decide +kernel
def mi_X0_change : MI := (yX0_change, cX0_change, 4, (some .int), ({ frames := 0, cells := 0, slots := 0, locals := 0 } : Room), 2, 1, 307, 9, 305, 306)
theorem mo_X0_change : okM mi_X0_change = true := by decide +kernel
def mi_J7_fill_e525d : MI := (yJ7_fill_e525d, cJ7_fill_e525d, 4, none, ({ frames := 0, cells := 0, slots := 0, locals := 0 } : Room), 2, 0, 245, 16, 244, 0)
theorem mo_J7_fill_e525d : okM mi_J7_fill_e525d = true := by decide +kernel
def mi_J7_fill_53178 : MI := (yJ7_fill_53178, cJ7_fill_53178, 4, none, ({ frames := 0, cells := 0, slots := 0, locals := 0 } : Room), 2, 0, 248, 16, 247, 0)
theorem mo_J7_fill_53178 : okM mi_J7_fill_53178 = true := by decide +kernel
def mi_X1_makeNew : MI := (yX1_makeNew, cX1_makeNew, 1, none, ({ frames := 1, cells := 0, slots := 0, locals := 23 } : Room), 0, 1, 242, 10, 240, 241)
theorem mo_X1_makeNew : okM mi_X1_makeNew = true := by decide +kernel
def mi_X0_addPlate : MI := (yX0_addPlate, cX0_addPlate, 1, (some .int), ({ frames := 2, cells := 0, slots := 0, locals := 43 } : Room), 0, 1, 238, 9, 236, 237)
theorem mo_X0_addPlate : okM mi_X0_addPlate = true := by decide +kernel
def mi_X0_layPlate : MI := (yX0_layPlate, cX0_layPlate, 3, (some .int), ({ frames := 1, cells := 0, slots := 0, locals := 21 } : Room), 1, 1, 295, 9, 293, 294)
theorem mo_X0_layPlate : okM mi_X0_layPlate = true := by decide +kernel
def mi_X0_addWriter : MI := (yX0_addWriter, cX0_addWriter, 2, (some .int), ({ frames := 0, cells := 0, slots := 0, locals := 0 } : Room), 1, 1, 263, 9, 261, 262)
theorem mo_X0_addWriter : okM mi_X0_addWriter = true := by decide +kernel
def mi_X6_isPlace : MI := (yX6_isPlace, cX6_isPlace, 2, (some .boolean), ({ frames := 0, cells := 0, slots := 0, locals := 0 } : Room), 2, 0, 330, 8, 329, 0)
theorem mo_X6_isPlace : okM mi_X6_isPlace = true := by decide +kernel
def mi_X0_isEnough : MI := (yX0_isEnough, cX0_isEnough, 2, (some .boolean), ({ frames := 0, cells := 0, slots := 0, locals := 0 } : Room), 1, 1, 334, 9, 332, 333)
theorem mo_X0_isEnough : okM mi_X0_isEnough = true := by decide +kernel
def mi_J9_max_7cf53 : MI := (yJ9_max_7cf53, cJ9_max_7cf53, 2, (some .int), ({ frames := 0, cells := 0, slots := 0, locals := 0 } : Room), 2, 0, 345, 17, 344, 0)
theorem mo_J9_max_7cf53 : okM mi_J9_max_7cf53 = true := by decide +kernel
def mi_X6_firstNear : MI := (yX6_firstNear, cX6_firstNear, 1, (some .int), ({ frames := 1, cells := 0, slots := 0, locals := 21 } : Room), 1, 0, 342, 8, 341, 0)
theorem mo_X6_firstNear : okM mi_X6_firstNear = true := by decide +kernel
def mi_J9_min_7cf53 : MI := (yJ9_min_7cf53, cJ9_min_7cf53, 2, (some .int), ({ frames := 0, cells := 0, slots := 0, locals := 0 } : Room), 2, 0, 255, 17, 254, 0)
theorem mo_J9_min_7cf53 : okM mi_J9_min_7cf53 = true := by decide +kernel
def mi_X6_lastNear : MI := (yX6_lastNear, cX6_lastNear, 2, (some .int), ({ frames := 1, cells := 0, slots := 0, locals := 21 } : Room), 2, 0, 348, 8, 347, 0)
theorem mo_X6_lastNear : okM mi_X6_lastNear = true := by decide +kernel
def mi_X0_canBeRead : MI := (yX0_canBeRead, cX0_canBeRead, 3, (some .boolean), ({ frames := 1, cells := 0, slots := 0, locals := 21 } : Room), 2, 1, 353, 9, 351, 352)
theorem mo_X0_canBeRead : okM mi_X0_canBeRead = true := by decide +kernel
def mi_J9_abs_0f7a4 : MI := (yJ9_abs_0f7a4, cJ9_abs_0f7a4, 1, (some .int), ({ frames := 0, cells := 0, slots := 0, locals := 0 } : Room), 1, 0, 359, 17, 358, 0)
theorem mo_J9_abs_0f7a4 : okM mi_J9_abs_0f7a4 = true := by decide +kernel
def mi_X0_distance : MI := (yX0_distance, cX0_distance, 4, (some .int), ({ frames := 1, cells := 0, slots := 0, locals := 21 } : Room), 2, 0, 356, 9, 355, 0)
theorem mo_X0_distance : okM mi_X0_distance = true := by decide +kernel
def mi_X0_dimmed : MI := (yX0_dimmed, cX0_dimmed, 5, (some .float), ({ frames := 0, cells := 0, slots := 0, locals := 0 } : Room), 3, 1, 364, 9, 362, 363)
theorem mo_X0_dimmed : okM mi_X0_dimmed = true := by decide +kernel
def mi_X0_mark : MI := (yX0_mark, cX0_mark, 12, (some .int), ({ frames := 2, cells := 0, slots := 0, locals := 44 } : Room), 4, 1, 339, 9, 337, 338)
theorem mo_X0_mark : okM mi_X0_mark = true := by decide +kernel
def mi_X0_writeLetter : MI := (yX0_writeLetter, cX0_writeLetter, 9, (some .int), ({ frames := 3, cells := 0, slots := 0, locals := 75 } : Room), 4, 1, 319, 9, 317, 318)
theorem mo_X0_writeLetter : okM mi_X0_writeLetter = true := by decide +kernel
def mi_X1_isFree : MI := (yX1_isFree, cX1_isFree, 2, (some .boolean), ({ frames := 0, cells := 0, slots := 0, locals := 0 } : Room), 1, 1, 380, 10, 378, 379)
theorem mo_X1_isFree : okM mi_X1_isFree = true := by decide +kernel
def mi_X0_lightAhead : MI := (yX0_lightAhead, cX0_lightAhead, 9, (some .float), ({ frames := 2, cells := 0, slots := 0, locals := 44 } : Room), 2, 1, 384, 9, 382, 383)
theorem mo_X0_lightAhead : okM mi_X0_lightAhead = true := by decide +kernel
def mi_X0_hasRoom : MI := (yX0_hasRoom, cX0_hasRoom, 3, (some .boolean), ({ frames := 3, cells := 0, slots := 0, locals := 72 } : Room), 2, 1, 376, 9, 374, 375)
theorem mo_X0_hasRoom : okM mi_X0_hasRoom = true := by decide +kernel
def mi_X1_promisedPlaces : MI := (yX1_promisedPlaces, cX1_promisedPlaces, 3, (some .int), ({ frames := 0, cells := 0, slots := 0, locals := 0 } : Room), 0, 1, 388, 10, 386, 387)
theorem mo_X1_promisedPlaces : okM mi_X1_promisedPlaces = true := by decide +kernel
def mi_X0_promisePlace : MI := (yX0_promisePlace, cX0_promisePlace, 6, (some .int), ({ frames := 4, cells := 0, slots := 0, locals := 94 } : Room), 3, 1, 372, 9, 370, 371)
theorem mo_X0_promisePlace : okM mi_X0_promisePlace = true := by decide +kernel
def mi_X0_takePromiseBack : MI := (yX0_takePromiseBack, cX0_takePromiseBack, 6, (some .int), ({ frames := 2, cells := 0, slots := 0, locals := 41 } : Room), 2, 1, 396, 9, 394, 395)
theorem mo_X0_takePromiseBack : okM mi_X0_takePromiseBack = true := by decide +kernel
def mi_X0_rubLetter : MI := (yX0_rubLetter, cX0_rubLetter, 6, (some .int), ({ frames := 2, cells := 0, slots := 0, locals := 41 } : Room), 2, 1, 404, 9, 402, 403)
theorem mo_X0_rubLetter : okM mi_X0_rubLetter = true := by decide +kernel
def mi_X0_cleared : MI := (yX0_cleared, cX0_cleared, 2, (some .float), ({ frames := 0, cells := 0, slots := 0, locals := 0 } : Room), 1, 1, 424, 9, 422, 423)
theorem mo_X0_cleared : okM mi_X0_cleared = true := by decide +kernel
def mi_X0_clearedFor : MI := (yX0_clearedFor, cX0_clearedFor, 6, (some .float), ({ frames := 1, cells := 0, slots := 0, locals := 21 } : Room), 2, 1, 420, 9, 419, 1)
theorem mo_X0_clearedFor : okM mi_X0_clearedFor = true := by decide +kernel
def mi_X0_clearFor : MI := (yX0_clearFor, cX0_clearFor, 4, none, ({ frames := 2, cells := 0, slots := 0, locals := 46 } : Room), 2, 1, 416, 9, 415, 0)
theorem mo_X0_clearFor : okM mi_X0_clearFor = true := by decide +kernel
def mi_X0_passHours : MI := (yX0_passHours, cX0_passHours, 3, (some .int), ({ frames := 3, cells := 0, slots := 0, locals := 69 } : Room), 1, 1, 412, 9, 410, 411)
theorem mo_X0_passHours : okM mi_X0_passHours = true := by decide +kernel
def mi_X0_hoursUntilEnough : MI := (yX0_hoursUntilEnough, cX0_hoursUntilEnough, 4, (some .int), ({ frames := 1, cells := 0, slots := 0, locals := 21 } : Room), 1, 1, 465, 9, 464, 2)
theorem mo_X0_hoursUntilEnough : okM mi_X0_hoursUntilEnough = true := by decide +kernel
def mi_X0_hoursUntilReadable : MI := (yX0_hoursUntilReadable, cX0_hoursUntilReadable, 4, (some .int), ({ frames := 2, cells := 0, slots := 0, locals := 44 } : Room), 1, 1, 461, 9, 459, 460)
theorem mo_X0_hoursUntilReadable : okM mi_X0_hoursUntilReadable = true := by decide +kernel
def mi_X0_placeIs : MI := (yX0_placeIs, cX0_placeIs, 4, (some .boolean), ({ frames := 4, cells := 0, slots := 0, locals := 94 } : Room), 3, 1, 440, 9, 438, 439)
theorem mo_X0_placeIs : okM mi_X0_placeIs = true := by decide +kernel
def mi_X0_placesThat : MI := (yX0_placesThat, cX0_placesThat, 5, (some .int), ({ frames := 5, cells := 0, slots := 0, locals := 117 } : Room), 2, 1, 436, 9, 434, 435)
theorem mo_X0_placesThat : okM mi_X0_placesThat = true := by decide +kernel
def mi_X0_placesOfWriter : MI := (yX0_placesOfWriter, cX0_placesOfWriter, 8, (some .int), ({ frames := 5, cells := 0, slots := 0, locals := 117 } : Room), 2, 1, 474, 9, 472, 473)
theorem mo_X0_placesOfWriter : okM mi_X0_placesOfWriter = true := by decide +kernel
def mi_X1_leastLight : MI := (yX1_leastLight, cX1_leastLight, 3, (some .float), ({ frames := 0, cells := 0, slots := 0, locals := 0 } : Room), 0, 1, 444, 10, 442, 443)
theorem mo_X1_leastLight : okM mi_X1_leastLight = true := by decide +kernel
def mi_X1_sumOfLight : MI := (yX1_sumOfLight, cX1_sumOfLight, 3, (some .float), ({ frames := 0, cells := 0, slots := 0, locals := 0 } : Room), 0, 1, 453, 10, 451, 452)
theorem mo_X1_sumOfLight : okM mi_X1_sumOfLight = true := by decide +kernel
def mi_X2_init : MI := (yX2_init, cX2_init, 2, none, ({ frames := 3, cells := 183, slots := 13783, locals := 81 } : Room), 0, 2, 105, 11, 104, 0)
theorem mo_X2_init : okM mi_X2_init = true := by decide +kernel
def mi_X2_prepare : MI := (yX2_prepare, cX2_prepare, 2, none, ({ frames := 3, cells := 0, slots := 0, locals := 83 } : Room), 1, 1, 222, 11, 220, 221)
theorem mo_X2_prepare : okM mi_X2_prepare = true := by decide +kernel
def mi_X2_keepUnlessError : MI := (yX2_keepUnlessError, cX2_keepUnlessError, 2, (some .int), ({ frames := 1, cells := 0, slots := 0, locals := 21 } : Room), 1, 1, 252, 11, 250, 251)
theorem mo_X2_keepUnlessError : okM mi_X2_keepUnlessError = true := by decide +kernel
def mi_X2_takeBackInto : MI := (yX2_takeBackInto, cX2_takeBackInto, 2, (some .int), ({ frames := 3, cells := 0, slots := 0, locals := 83 } : Room), 1, 1, 275, 11, 273, 274)
theorem mo_X2_takeBackInto : okM mi_X2_takeBackInto = true := by decide +kernel
def mi_X4_init : MI := (yX4_init, cX4_init, 1, none, ({ frames := 1, cells := 1, slots := 80, locals := 40 } : Room), 0, 2, 131, 13, 130, 0)
theorem mo_X4_init : okM mi_X4_init = true := by decide +kernel
def mi_X3_init : MI := (yX3_init, cX3_init, 1, none, ({ frames := 2, cells := 7, slots := 482, locals := 60 } : Room), 0, 2, 125, 12, 124, 0)
theorem mo_X3_init : okM mi_X3_init = true := by decide +kernel
def mi_X5_init : MI := (yX5_init, cX5_init, 1, none, ({ frames := 2, cells := 6, slots := 604, locals := 60 } : Room), 0, 2, 185, 14, 184, 0)
theorem mo_X5_init : okM mi_X5_init = true := by decide +kernel
def mi_X5_lettersSpoiled : MI := (yX5_lettersSpoiled, cX5_lettersSpoiled, 5, (some .int), ({ frames := 3, cells := 0, slots := 0, locals := 75 } : Room), 4, 1, 545, 14, 543, 544)
theorem mo_X5_lettersSpoiled : okM mi_X5_lettersSpoiled = true := by decide +kernel
def mi_X5_promisesSpoiled : MI := (yX5_promisesSpoiled, cX5_promisesSpoiled, 8, (some .int), ({ frames := 3, cells := 0, slots := 0, locals := 75 } : Room), 4, 1, 550, 14, 548, 549)
theorem mo_X5_promisesSpoiled : okM mi_X5_promisesSpoiled = true := by decide +kernel
def mi_X5_roomLeft : MI := (yX5_roomLeft, cX5_roomLeft, 5, (some .int), ({ frames := 6, cells := 0, slots := 0, locals := 141 } : Room), 4, 1, 554, 14, 552, 553)
theorem mo_X5_roomLeft : okM mi_X5_roomLeft = true := by decide +kernel
def mi_X5_lookAhead : MI := (yX5_lookAhead, cX5_lookAhead, 5, none, ({ frames := 3, cells := 0, slots := 0, locals := 72 } : Room), 3, 1, 512, 14, 511, 4)
theorem mo_X5_lookAhead : okM mi_X5_lookAhead = true := by decide +kernel
def mi_X5_brightest : MI := (yX5_brightest, cX5_brightest, 5, (some .int), ({ frames := 1, cells := 0, slots := 0, locals := 21 } : Room), 1, 1, 518, 14, 517, 5)
theorem mo_X5_brightest : okM mi_X5_brightest = true := by decide +kernel
def mi_X5_brightestOf : MI := (yX5_brightestOf, cX5_brightestOf, 3, (some .int), ({ frames := 4, cells := 0, slots := 0, locals := 96 } : Room), 2, 1, 507, 14, 505, 506)
theorem mo_X5_brightestOf : okM mi_X5_brightestOf = true := by decide +kernel
def mi_X5_lookAround : MI := (yX5_lookAround, cX5_lookAround, 6, none, ({ frames := 4, cells := 0, slots := 0, locals := 96 } : Room), 2, 1, 570, 14, 569, 6)
theorem mo_X5_lookAround : okM mi_X5_lookAround = true := by decide +kernel
def mi_X5_lettersUntilFull : MI := (yX5_lettersUntilFull, cX5_lettersUntilFull, 6, (some .int), ({ frames := 5, cells := 0, slots := 0, locals := 121 } : Room), 3, 1, 566, 14, 564, 565)
theorem mo_X5_lettersUntilFull : okM mi_X5_lettersUntilFull = true := by decide +kernel
def mi_X6_init : MI := (yX6_init, cX6_init, 2, none, ({ frames := 4, cells := 279, slots := 20794, locals := 102 } : Room), 0, 2, 22, 8, 21, 0)
theorem mo_X6_init : okM mi_X6_init = true := by decide +kernel
def mi_X6_set : MI := (yX6_set, cX6_set, 3, (some .int), ({ frames := 4, cells := 0, slots := 0, locals := 104 } : Room), 2, 1, 303, 8, 301, 302)
theorem mo_X6_set : okM mi_X6_set = true := by decide +kernel
def mi_X6_plate : MI := (yX6_plate, cX6_plate, 1, (some .int), ({ frames := 4, cells := 0, slots := 0, locals := 104 } : Room), 0, 1, 218, 8, 216, 217)
theorem mo_X6_plate : okM mi_X6_plate = true := by decide +kernel
def mi_X6_lay : MI := (yX6_lay, cX6_lay, 2, (some .int), ({ frames := 4, cells := 0, slots := 0, locals := 104 } : Room), 1, 1, 291, 8, 289, 290)
theorem mo_X6_lay : okM mi_X6_lay = true := by decide +kernel
def mi_X6_writer : MI := (yX6_writer, cX6_writer, 2, (some .int), ({ frames := 4, cells := 0, slots := 0, locals := 104 } : Room), 1, 1, 259, 8, 257, 258)
theorem mo_X6_writer : okM mi_X6_writer = true := by decide +kernel
def mi_X6_write : MI := (yX6_write, cX6_write, 5, (some .int), ({ frames := 4, cells := 0, slots := 0, locals := 104 } : Room), 4, 1, 315, 8, 313, 314)
theorem mo_X6_write : okM mi_X6_write = true := by decide +kernel
def mi_X6_promise : MI := (yX6_promise, cX6_promise, 4, (some .int), ({ frames := 5, cells := 0, slots := 0, locals := 119 } : Room), 3, 1, 368, 8, 366, 367)
theorem mo_X6_promise : okM mi_X6_promise = true := by decide +kernel
def mi_X6_takeBack : MI := (yX6_takeBack, cX6_takeBack, 3, (some .int), ({ frames := 4, cells := 0, slots := 0, locals := 104 } : Room), 2, 1, 392, 8, 390, 391)
theorem mo_X6_takeBack : okM mi_X6_takeBack = true := by decide +kernel
def mi_X6_rub : MI := (yX6_rub, cX6_rub, 3, (some .int), ({ frames := 4, cells := 0, slots := 0, locals := 104 } : Room), 2, 1, 400, 8, 398, 399)
theorem mo_X6_rub : okM mi_X6_rub = true := by decide +kernel
def mi_X6_pass : MI := (yX6_pass, cX6_pass, 2, (some .int), ({ frames := 4, cells := 0, slots := 0, locals := 104 } : Room), 1, 1, 408, 8, 406, 407)
theorem mo_X6_pass : okM mi_X6_pass = true := by decide +kernel
def mi_X6_bitsOfFloat : MI := (yX6_bitsOfFloat, cX6_bitsOfFloat, 4, (some .int), ({ frames := 0, cells := 0, slots := 0, locals := 0 } : Room), 1, 0, 447, 8, 446, 0)
theorem mo_X6_bitsOfFloat : okM mi_X6_bitsOfFloat = true := by decide +kernel
def mi_X6_at : MI := (yX6_at, cX6_at, 6, (some .int), ({ frames := 4, cells := 0, slots := 0, locals := 94 } : Room), 3, 1, 482, 8, 480, 481)
theorem mo_X6_at : okM mi_X6_at = true := by decide +kernel
def mi_X6_columnsThat : MI := (yX6_columnsThat, cX6_columnsThat, 6, (some .int), ({ frames := 5, cells := 0, slots := 0, locals := 117 } : Room), 3, 1, 495, 8, 494, 3)
theorem mo_X6_columnsThat : okM mi_X6_columnsThat = true := by decide +kernel
def mi_X6_longestRun : MI := (yX6_longestRun, cX6_longestRun, 4, (some .int), ({ frames := 1, cells := 0, slots := 0, locals := 21 } : Room), 1, 0, 499, 8, 498, 0)
theorem mo_X6_longestRun : okM mi_X6_longestRun = true := by decide +kernel
def mi_X6_row : MI := (yX6_row, cX6_row, 4, (some .int), ({ frames := 6, cells := 0, slots := 0, locals := 142 } : Room), 2, 1, 491, 8, 489, 490)
theorem mo_X6_row : okM mi_X6_row = true := by decide +kernel
def mi_X6_of : MI := (yX6_of, cX6_of, 3, (some .int), ({ frames := 6, cells := 0, slots := 0, locals := 144 } : Room), 2, 1, 469, 8, 467, 468)
theorem mo_X6_of : okM mi_X6_of = true := by decide +kernel
def mi_X6_ofPlate : MI := (yX6_ofPlate, cX6_ofPlate, 4, (some .int), ({ frames := 6, cells := 0, slots := 0, locals := 141 } : Room), 2, 1, 431, 8, 429, 430)
theorem mo_X6_ofPlate : okM mi_X6_ofPlate = true := by decide +kernel
def mi_X6_count : MI := (yX6_count, cX6_count, 2, (some .int), ({ frames := 0, cells := 0, slots := 0, locals := 0 } : Room), 1, 1, 267, 8, 265, 266)
theorem mo_X6_count : okM mi_X6_count = true := by decide +kernel
def mi_X6_bitsOfMean : MI := (yX6_bitsOfMean, cX6_bitsOfMean, 5, (some .long), ({ frames := 0, cells := 0, slots := 0, locals := 0 } : Room), 1, 0, 530, 8, 529, 0)
theorem mo_X6_bitsOfMean : okM mi_X6_bitsOfMean = true := by decide +kernel
def mi_X6_mean : MI := (yX6_mean, cX6_mean, 5, (some .long), ({ frames := 2, cells := 0, slots := 0, locals := 41 } : Room), 0, 1, 526, 8, 524, 525)
theorem mo_X6_mean : okM mi_X6_mean = true := by decide +kernel
def mi_X6_ifWritten : MI := (yX6_ifWritten, cX6_ifWritten, 7, (some .int), ({ frames := 7, cells := 0, slots := 0, locals := 165 } : Room), 4, 1, 541, 8, 539, 540)
theorem mo_X6_ifWritten : okM mi_X6_ifWritten = true := by decide +kernel
def mi_X6_bestPlace : MI := (yX6_bestPlace, cX6_bestPlace, 2, (some .int), ({ frames := 5, cells := 0, slots := 0, locals := 118 } : Room), 0, 1, 503, 8, 501, 502)
theorem mo_X6_bestPlace : okM mi_X6_bestPlace = true := by decide +kernel
def mi_X6_fills : MI := (yX6_fills, cX6_fills, 3, (some .int), ({ frames := 6, cells := 0, slots := 0, locals := 146 } : Room), 1, 1, 562, 8, 560, 561)
theorem mo_X6_fills : okM mi_X6_fills = true := by decide +kernel
def mi_X6_readableIn : MI := (yX6_readableIn, cX6_readableIn, 2, (some .int), ({ frames := 3, cells := 0, slots := 0, locals := 67 } : Room), 1, 1, 457, 8, 455, 456)
theorem mo_X6_readableIn : okM mi_X6_readableIn = true := by decide +kernel
def mi_X6_undo : MI := (yX6_undo, cX6_undo, 1, (some .int), ({ frames := 4, cells := 0, slots := 0, locals := 104 } : Room), 0, 1, 271, 8, 269, 270)
theorem mo_X6_undo : okM mi_X6_undo = true := by decide +kernel
def mi_X6_save : MI := (yX6_save, cX6_save, 2, (some .int), ({ frames := 3, cells := 0, slots := 0, locals := 83 } : Room), 1, 1, 576, 8, 574, 575)
theorem mo_X6_save : okM mi_X6_save = true := by decide +kernel
def mi_X6_restore : MI := (yX6_restore, cX6_restore, 2, (some .int), ({ frames := 4, cells := 0, slots := 0, locals := 104 } : Room), 1, 1, 581, 8, 579, 580)
theorem mo_X6_restore : okM mi_X6_restore = true := by decide +kernel
def mi_L_cell : MI := (yL_cell, cL_cell, 2, (some .int), ({ frames := 0, cells := 0, slots := 0, locals := 0 } : Room), 2, 0, 278, 7, 277, 0)
theorem mo_L_cell : okM mi_L_cell = true := by decide +kernel
def mi_L_low : MI := (yL_low, cL_low, 2, (some .int), ({ frames := 0, cells := 0, slots := 0, locals := 0 } : Room), 2, 0, 283, 7, 282, 0)
theorem mo_L_low : okM mi_L_low = true := by decide +kernel
def mi_L_act : MI := (yL_act, cL_act, 7, (some .int), ({ frames := 6, cells := 0, slots := 0, locals := 142 } : Room), 3, 0, 287, 7, 286, 0)
theorem mo_L_act : okM mi_L_act = true := by decide +kernel
def mi_L_places : MI := (yL_places, cL_places, 18, (some .boolean), ({ frames := 7, cells := 0, slots := 0, locals := 165 } : Room), 1, 0, 477, 7, 476, 0)
theorem mo_L_places : okM mi_L_places = true := by decide +kernel
def mi_L_hangs : MI := (yL_hangs, cL_hangs, 5, (some .boolean), ({ frames := 8, cells := 0, slots := 0, locals := 202 } : Room), 1, 0, 427, 7, 426, 0)
theorem mo_L_hangs : okM mi_L_hangs = true := by decide +kernel
def mi_L_print : MI := (yL_print, cL_print, 4, (some .long), ({ frames := 7, cells := 0, slots := 0, locals := 166 } : Room), 1, 0, 522, 7, 521, 0)
theorem mo_L_print : okM mi_L_print = true := by decide +kernel
def mi_L_writes : MI := (yL_writes, cL_writes, 17, (some .boolean), ({ frames := 8, cells := 0, slots := 0, locals := 191 } : Room), 2, 0, 537, 7, 536, 0)
theorem mo_L_writes : okM mi_L_writes = true := by decide +kernel
def mi_L_fills : MI := (yL_fills, cL_fills, 7, (some .boolean), ({ frames := 7, cells := 0, slots := 0, locals := 168 } : Room), 2, 0, 558, 7, 557, 0)
theorem mo_L_fills : okM mi_L_fills = true := by decide +kernel
def mi_L_clears : MI := (yL_clears, cL_clears, 5, (some .boolean), ({ frames := 7, cells := 0, slots := 0, locals := 164 } : Room), 1, 0, 584, 7, 583, 0)
theorem mo_L_clears : okM mi_L_clears = true := by decide +kernel
