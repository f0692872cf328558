def wsX8_everywhere_r9 : List Cond := [Cond.code yX2_circleThrough cX2_circleThrough 14 (some .boolean), Cond.methodLink RX8 236 yX8_verdict, Cond.instanceMethod yX8_verdict, Cond.selects RX8 yX8_verdict yX8_verdict, Cond.code yX8_verdict cX8_verdict 6 (some .int), Cond.fieldLink RX8 306 "PrimePlane$Claim" "a" "I", Cond.fieldLink RX8 307 "PrimePlane$Claim" "b" "I", Cond.fieldLink RX8 308 "PrimePlane$Claim" "c" "I", Cond.fieldLink RX8 309 "PrimePlane$Claim" "d" "I", Cond.fieldLink RX8 10 "PrimePlane" "judge" "LPrimePlane$Judge;", Cond.fieldLink RX8 312 "PrimePlane$Claim" "sort" "I", Cond.methodLink RX8 314 yX5_isTrue, Cond.instanceMethod yX5_isTrue, Cond.selects RX5 yX5_isTrue yX5_isTrue, Cond.initialized RX5, Cond.code yX5_isTrue cX5_isTrue 6 (some .boolean), Cond.fieldLink RX5 12 "PrimePlane$Judge" "compass" "LPrimePlane$Compass;", Cond.fieldLink RX5 22 "PrimePlane$Judge" "field" "LPrimePlane$Field;", Cond.fieldLink RX5 50 "PrimePlane$Figure" "x" "I", Cond.fieldLink RX5 54 "PrimePlane$Figure" "y" "I", Cond.methodLink RX5 35 yX2_power, Cond.methodLink RX5 39 yX5_isOnCircle, Cond.instanceMethod yX5_isOnCircle, Cond.selects RX5 yX5_isOnCircle yX5_isOnCircle]
def wsX8_everywhere_r10 : List Cond := [Cond.code yX5_isOnCircle cX5_isOnCircle 3 (some .boolean), Cond.fieldLink RX5 73 "PrimePlane$Figure" "z" "I", Cond.methodLink RX5 63 yX2_squareOf, Cond.methodLink RX5 43 yX5_areInLine, Cond.instanceMethod yX5_areInLine, Cond.selects RX5 yX5_areInLine yX5_areInLine, Cond.code yX5_areInLine cX5_areInLine 4 (some .boolean), Cond.methodLink RX5 57 yX3_rest, Cond.methodLink RX5 47 yX5_areParallel, Cond.static yX5_areParallel, Cond.code yX5_areParallel cX5_areParallel 2 (some .boolean), Cond.methodLink RX5 66 yX4_isLike, Cond.instanceMethod yX4_isLike, Cond.selects RX4 yX4_isLike yX4_isLike, Cond.code yX4_isLike cX4_isLike 2 (some .boolean), Cond.methodLink RX5 70 yX5_shareAPlace, Cond.instanceMethod yX5_shareAPlace, Cond.selects RX5 yX5_shareAPlace yX5_shareAPlace, Cond.code yX5_shareAPlace cX5_shareAPlace 4 (some .boolean), Cond.fieldLink RX5 28 "PrimePlane$Judge" "cross" "LPrimePlane$Figure;", Cond.methodLink RX5 76 yX2_intersection]
def wsX8_everywhere : List Cond := .code yX8_everywhere cX8_everywhere 15 (some .int) :: ((wsX8_everywhere_r1 ++ (wsX8_everywhere_r2 ++ (wsX8_everywhere_r3 ++ (wsX8_everywhere_r4 ++ (wsX8_everywhere_r5 ++ (wsX8_everywhere_r6 ++ (wsX8_everywhere_r7 ++ (wsX8_everywhere_r8 ++ (wsX8_everywhere_r9 ++ wsX8_everywhere_r10))))))))) ++ wsX80 ++ wsX40 ++ wsX30 ++ wsX10 ++ wsX60 ++ wsX00 ++ wsX20 ++ wsX50 ++ (vx_atS RX8 99 "java/lang/IndexOutOfBoundsException" ["java/lang/RuntimeException", "java/lang/Exception"]).filter goodWord ++ (vx_atS RX8 120 "java/lang/IllegalStateException" ["java/lang/RuntimeException", "java/lang/Exception"]).filter goodWord)
def wsX8_locus_r1 : List Cond := [Cond.classLink RX8 95 "java/lang/IndexOutOfBoundsException", Cond.initialized "java/lang/IndexOutOfBoundsException", Cond.classLink RX8 116 "java/lang/IllegalStateException", Cond.initialized "java/lang/IllegalStateException", Cond.fieldLink RX8 31 "PrimePlane" "row" "LPrimePlane$Row;", Cond.fieldLink RX8 166 "PrimePlane$Figure" "way" "I", Cond.fieldLink RX8 45 "PrimePlane" "trail" "LPrimePlane$Trail;", Cond.fieldLink RX8 248 "PrimePlane$Figure" "toldX" "I", Cond.fieldLink RX8 27 "PrimePlane" "field" "LPrimePlane$Field;", Cond.fieldLink RX8 85 "PrimePlane$Field" "p" "I", Cond.fieldLink RX8 266 "PrimePlane$Trail" "seen" "LPrimePlane$Row;", Cond.fieldLink RX8 66 "PrimePlane$Row" "size" "I", Cond.fieldLink RX8 10 "PrimePlane" "judge" "LPrimePlane$Judge;", Cond.fieldLink RX8 273 "PrimePlane$Trail" "missed" "I", Cond.methodLink RX8 100 yX6_has, Cond.instanceMethod yX6_has, Cond.selects RX6 yX6_has yX6_has, Cond.initialized RX6, Cond.code yX6_has cX6_has 2 (some .boolean), Cond.fieldLink RX6 24 "PrimePlane$Row" "size" "I", Cond.methodLink RX8 103 yX6_at, Cond.instanceMethod yX6_at, Cond.selects RX6 yX6_at yX6_at, Cond.code yX6_at cX6_at 3 (some (.object "PrimePlane$Figure"))]
def wsX8_locus_r2 : List Cond := [Cond.fieldLink RX6 11 "PrimePlane$Row" "figures" "[LPrimePlane$Figure;", Cond.fieldLink RX6 20 "PrimePlane$Row" "nobody" "LPrimePlane$Figure;", Cond.methodLink RX8 107 yX4_sort, Cond.instanceMethod yX4_sort, Cond.selects RX4 yX4_sort yX4_sort, Cond.initialized RX4, Cond.code yX4_sort cX4_sort 1 (some .int), Cond.fieldLink RX4 24 "PrimePlane$Figure" "way" "I", Cond.methodLink RX8 171 yX6_markFollowers, Cond.instanceMethod yX6_markFollowers, Cond.selects RX6 yX6_markFollowers yX6_markFollowers, Cond.code yX6_markFollowers cX6_markFollowers 4 none, Cond.fieldLink RX6 39 "PrimePlane$Figure" "rank" "I", Cond.fieldLink RX6 42 "PrimePlane$Figure" "a" "I", Cond.fieldLink RX6 45 "PrimePlane$Figure" "follows" "Z", Cond.fieldLink RX6 48 "PrimePlane$Figure" "b" "I", Cond.fieldLink RX6 51 "PrimePlane$Figure" "c" "I", Cond.methodLink RX6 28 yX6_at, Cond.methodLink RX8 258 yX6_wantFor, Cond.instanceMethod yX6_wantFor, Cond.selects RX6 yX6_wantFor yX6_wantFor, Cond.code yX6_wantFor cX6_wantFor 2 none, Cond.fieldLink RX6 58 "PrimePlane$Figure" "wanted" "Z", Cond.methodLink RX6 54 yX6_setWanted]
def wsX8_locus_r3 : List Cond := [Cond.instanceMethod yX6_setWanted, Cond.selects RX6 yX6_setWanted yX6_setWanted, Cond.code yX6_setWanted cX6_setWanted 3 none, Cond.methodLink RX6 61 yX6_wantParents, Cond.instanceMethod yX6_wantParents, Cond.selects RX6 yX6_wantParents yX6_wantParents, Cond.code yX6_wantParents cX6_wantParents 3 none, Cond.methodLink RX8 260 yX7_clear, Cond.instanceMethod yX7_clear, Cond.selects RX7 yX7_clear yX7_clear, Cond.initialized RX7, Cond.code yX7_clear cX7_clear 1 none, Cond.fieldLink RX7 10 "PrimePlane$Trail" "seen" "LPrimePlane$Row;", Cond.fieldLink RX7 16 "PrimePlane$Row" "size" "I", Cond.fieldLink RX7 20 "PrimePlane$Trail" "missed" "I", Cond.methodLink RX8 177 yX8_shift, Cond.instanceMethod yX8_shift, Cond.selects RX8 yX8_shift yX8_shift, Cond.initialized RX8, Cond.code yX8_shift cX8_shift 6 none, Cond.fieldLink RX8 137 "PrimePlane$Figure" "rank" "I", Cond.fieldLink RX8 300 "PrimePlane$Figure" "follows" "Z", Cond.fieldLink RX8 303 "PrimePlane$Figure" "wanted" "Z", Cond.methodLink RX8 129 yX4_tell]
def wsX8_locus_r4 : List Cond := [Cond.instanceMethod yX4_tell, Cond.selects RX4 yX4_tell yX4_tell, Cond.code yX4_tell cX4_tell 3 none, Cond.fieldLink RX4 27 "PrimePlane$Figure" "toldX" "I", Cond.fieldLink RX4 30 "PrimePlane$Figure" "toldY" "I", Cond.methodLink RX8 133 yX8_remake, Cond.instanceMethod yX8_remake, Cond.selects RX8 yX8_remake yX8_remake, Cond.code yX8_remake cX8_remake 6 none, Cond.fieldLink RX8 287 "PrimePlane$Figure" "a" "I", Cond.fieldLink RX8 290 "PrimePlane$Figure" "b" "I", Cond.fieldLink RX8 293 "PrimePlane$Figure" "c" "I", Cond.fieldLink RX8 188 "PrimePlane$Figure" "lacking" "Z", Cond.fieldLink RX8 20 "PrimePlane" "compass" "LPrimePlane$Compass;", Cond.methodLink RX8 296 yX2_draw, Cond.instanceMethod yX2_draw, Cond.selects RX2 yX2_draw yX2_draw, Cond.initialized RX2, Cond.code yX2_draw cX2_draw 5 (some .boolean), Cond.fieldLink RX2 27 "PrimePlane$Figure" "way" "I", Cond.fieldLink RX2 31 "PrimePlane$Figure" "toldX" "I", Cond.fieldLink RX2 34 "PrimePlane$Figure" "toldY" "I", Cond.fieldLink RX2 23 "PrimePlane$Compass" "chord" "LPrimePlane$Figure;", Cond.fieldLink RX2 64 "PrimePlane$Figure" "x" "I"]
def wsX8_locus_r5 : List Cond := [Cond.fieldLink RX2 67 "PrimePlane$Figure" "y" "I", Cond.methodLink RX2 37 yX2_putPoint, Cond.instanceMethod yX2_putPoint, Cond.selects RX2 yX2_putPoint yX2_putPoint, Cond.code yX2_putPoint cX2_putPoint 4 (some .boolean), Cond.fieldLink RX2 12 "PrimePlane$Compass" "field" "LPrimePlane$Field;", Cond.methodLink RX2 89 yX3_rest, Cond.instanceMethod yX3_rest, Cond.selects RX3 yX3_rest yX3_rest, Cond.initialized RX3, Cond.code yX3_rest cX3_rest 2 (some .int), Cond.fieldLink RX3 9 "PrimePlane$Field" "p" "I", Cond.methodLink RX3 30 yJ9_floorMod_7cf53, Cond.static yJ9_floorMod_7cf53, Cond.initialized RJ9, Cond.code yJ9_floorMod_7cf53 cJ9_floorMod_7cf53 3 (some .int), Cond.methodLink RX2 93 yX4_put, Cond.instanceMethod yX4_put, Cond.selects RX4 yX4_put yX4_put, Cond.code yX4_put cX4_put 4 none, Cond.fieldLink RX4 33 "PrimePlane$Figure" "x" "I", Cond.fieldLink RX4 36 "PrimePlane$Figure" "y" "I", Cond.fieldLink RX4 39 "PrimePlane$Figure" "z" "I", Cond.methodLink RX2 41 yX2_pointOnLine]
def wsX8_locus_r6 : List Cond := [Cond.instanceMethod yX2_pointOnLine, Cond.selects RX2 yX2_pointOnLine yX2_pointOnLine, Cond.code yX2_pointOnLine cX2_pointOnLine 4 (some .boolean), Cond.fieldLink RX2 100 "PrimePlane$Figure" "z" "I", Cond.methodLink RX2 103 yX3_ratio, Cond.instanceMethod yX3_ratio, Cond.selects RX3 yX3_ratio yX3_ratio, Cond.code yX3_ratio cX3_ratio 3 (some .int), Cond.methodLink RX3 22 yX3_rest, Cond.methodLink RX3 36 yX3_inverseOf, Cond.instanceMethod yX3_inverseOf, Cond.selects RX3 yX3_inverseOf yX3_inverseOf, Cond.code yX3_inverseOf cX3_inverseOf 2 (some .int), Cond.fieldLink RX3 15 "PrimePlane$Field" "inverses" "[I", Cond.methodLink RX2 45 yX2_intersection, Cond.instanceMethod yX2_intersection, Cond.selects RX2 yX2_intersection yX2_intersection, Cond.code yX2_intersection cX2_intersection 5 (some .boolean), Cond.methodLink RX2 49 yX2_lineAndCircle, Cond.instanceMethod yX2_lineAndCircle, Cond.selects RX2 yX2_lineAndCircle yX2_lineAndCircle, Cond.code yX2_lineAndCircle cX2_lineAndCircle 15 (some .boolean), Cond.methodLink RX2 107 yX2_power, Cond.instanceMethod yX2_power]
def wsX8_locus_r7 : List Cond := [Cond.selects RX2 yX2_power yX2_power, Cond.code yX2_power cX2_power 3 (some .int), Cond.methodLink RX2 110 yX3_rootOf, Cond.instanceMethod yX3_rootOf, Cond.selects RX3 yX3_rootOf yX3_rootOf, Cond.code yX3_rootOf cX3_rootOf 3 (some .int), Cond.fieldLink RX3 19 "PrimePlane$Field" "roots" "[I", Cond.methodLink RX2 52 yX2_equalPowers, Cond.instanceMethod yX2_equalPowers, Cond.selects RX2 yX2_equalPowers yX2_equalPowers, Cond.code yX2_equalPowers cX2_equalPowers 5 (some .boolean), Cond.methodLink RX2 113 yX2_putLine, Cond.instanceMethod yX2_putLine, Cond.selects RX2 yX2_putLine yX2_putLine, Cond.code yX2_putLine cX2_putLine 7 (some .boolean), Cond.methodLink RX2 97 yX3_inverseOf, Cond.methodLink RX2 55 yX2_middle, Cond.instanceMethod yX2_middle, Cond.selects RX2 yX2_middle yX2_middle, Cond.code yX2_middle cX2_middle 4 (some .boolean), Cond.methodLink RX2 58 yX2_mirror, Cond.instanceMethod yX2_mirror, Cond.selects RX2 yX2_mirror yX2_mirror, Cond.code yX2_mirror cX2_mirror 5 (some .boolean)]
def wsX8_locus_r8 : List Cond := [Cond.methodLink RX2 61 yX2_lineThrough, Cond.instanceMethod yX2_lineThrough, Cond.selects RX2 yX2_lineThrough yX2_lineThrough, Cond.code yX2_lineThrough cX2_lineThrough 4 (some .boolean), Cond.methodLink RX2 70 yX2_lineAlong, Cond.instanceMethod yX2_lineAlong, Cond.selects RX2 yX2_lineAlong yX2_lineAlong, Cond.code yX2_lineAlong cX2_lineAlong 5 (some .boolean), Cond.methodLink RX2 74 yX2_lineBetween, Cond.instanceMethod yX2_lineBetween, Cond.selects RX2 yX2_lineBetween yX2_lineBetween, Cond.code yX2_lineBetween cX2_lineBetween 5 (some .boolean), Cond.methodLink RX2 77 yX2_squareOf, Cond.instanceMethod yX2_squareOf, Cond.selects RX2 yX2_squareOf yX2_squareOf, Cond.code yX2_squareOf cX2_squareOf 5 (some .int), Cond.methodLink RX2 81 yX2_putCircle, Cond.instanceMethod yX2_putCircle, Cond.selects RX2 yX2_putCircle yX2_putCircle, Cond.code yX2_putCircle cX2_putCircle 5 (some .boolean), Cond.methodLink RX2 85 yX2_circleThrough, Cond.instanceMethod yX2_circleThrough, Cond.selects RX2 yX2_circleThrough yX2_circleThrough, Cond.code yX2_circleThrough cX2_circleThrough 14 (some .boolean)]
def wsX8_locus_r9 : List Cond := [Cond.methodLink RX8 263 yX7_look, Cond.instanceMethod yX7_look, Cond.selects RX7 yX7_look yX7_look, Cond.code yX7_look cX7_look 2 none, Cond.fieldLink RX7 23 "PrimePlane$Figure" "lacking" "Z", Cond.fieldLink RX7 37 "PrimePlane$Figure" "x" "I", Cond.fieldLink RX7 40 "PrimePlane$Figure" "y" "I", Cond.methodLink RX7 29 yX7_knows, Cond.instanceMethod yX7_knows, Cond.selects RX7 yX7_knows yX7_knows, Cond.code yX7_knows cX7_knows 3 (some .boolean), Cond.methodLink RX7 47 yX6_at, Cond.methodLink RX7 51 yX4_isLike, Cond.instanceMethod yX4_isLike, Cond.selects RX4 yX4_isLike yX4_isLike, Cond.code yX4_isLike cX4_isLike 2 (some .boolean), Cond.methodLink RX7 33 yX6_next, Cond.instanceMethod yX6_next, Cond.selects RX6 yX6_next yX6_next, Cond.code yX6_next cX6_next 1 (some (.object "PrimePlane$Figure")), Cond.methodLink RX7 43 yX4_put, Cond.methodLink RX8 269 yX5_shapeOf, Cond.instanceMethod yX5_shapeOf, Cond.selects RX5 yX5_shapeOf yX5_shapeOf]
def wsX8_locus_r10 : List Cond := [Cond.initialized RX5, Cond.code yX5_shapeOf cX5_shapeOf 2 (some .int), Cond.fieldLink RX5 79 "PrimePlane$Row" "size" "I", Cond.methodLink RX5 84 yX5_allAreInLine, Cond.instanceMethod yX5_allAreInLine, Cond.selects RX5 yX5_allAreInLine yX5_allAreInLine, Cond.code yX5_allAreInLine cX5_allAreInLine 3 (some .boolean), Cond.methodLink RX5 91 yX6_at, Cond.methodLink RX5 43 yX5_areInLine, Cond.instanceMethod yX5_areInLine, Cond.selects RX5 yX5_areInLine yX5_areInLine, Cond.code yX5_areInLine cX5_areInLine 4 (some .boolean), Cond.fieldLink RX5 22 "PrimePlane$Judge" "field" "LPrimePlane$Field;", Cond.fieldLink RX5 50 "PrimePlane$Figure" "x" "I", Cond.fieldLink RX5 54 "PrimePlane$Figure" "y" "I", Cond.methodLink RX5 57 yX3_rest, Cond.methodLink RX5 88 yX5_allAreOnCircle, Cond.instanceMethod yX5_allAreOnCircle, Cond.selects RX5 yX5_allAreOnCircle yX5_allAreOnCircle, Cond.code yX5_allAreOnCircle cX5_allAreOnCircle 3 (some .boolean), Cond.fieldLink RX5 12 "PrimePlane$Judge" "compass" "LPrimePlane$Compass;", Cond.fieldLink RX5 32 "PrimePlane$Judge" "ring" "LPrimePlane$Figure;", Cond.methodLink RX5 95 yX2_circleThrough, Cond.methodLink RX5 39 yX5_isOnCircle]
def wsX8_locus_r11 : List Cond := [Cond.instanceMethod yX5_isOnCircle, Cond.selects RX5 yX5_isOnCircle yX5_isOnCircle, Cond.code yX5_isOnCircle cX5_isOnCircle 3 (some .boolean), Cond.fieldLink RX5 73 "PrimePlane$Figure" "z" "I", Cond.methodLink RX5 63 yX2_squareOf, Cond.methodLink RX8 276 yX7_sum, Cond.instanceMethod yX7_sum, Cond.selects RX7 yX7_sum yX7_sum, Cond.code yX7_sum cX7_sum 5 (some .int)]
def wsX8_locus : List Cond := .code yX8_locus cX8_locus 8 (some .int) :: ((wsX8_locus_r1 ++ (wsX8_locus_r2 ++ (wsX8_locus_r3 ++ (wsX8_locus_r4 ++ (wsX8_locus_r5 ++ (wsX8_locus_r6 ++ (wsX8_locus_r7 ++ (wsX8_locus_r8 ++ (wsX8_locus_r9 ++ (wsX8_locus_r10 ++ wsX8_locus_r11)))))))))) ++ wsX80 ++ wsX40 ++ wsX30 ++ wsX70 ++ wsX60 ++ wsX20 ++ wsX50 ++ (vx_atS RX8 99 "java/lang/IndexOutOfBoundsException" ["java/lang/RuntimeException", "java/lang/Exception"]).filter goodWord ++ (vx_atS RX8 120 "java/lang/IllegalStateException" ["java/lang/RuntimeException", "java/lang/Exception"]).filter goodWord)
def wsX8_truth_r1 : List Cond := [Cond.fieldLink RX8 38 "PrimePlane" "claimRow" "LPrimePlane$ClaimRow;", Cond.fieldLink RX8 70 "PrimePlane$ClaimRow" "size" "I", Cond.methodLink RX8 233 yX1_at, Cond.instanceMethod yX1_at, Cond.selects RX1 yX1_at yX1_at, Cond.initialized RX1, Cond.code yX1_at cX1_at 3 (some (.object "PrimePlane$Claim")), Cond.fieldLink RX1 22 "PrimePlane$ClaimRow" "size" "I", Cond.fieldLink RX1 11 "PrimePlane$ClaimRow" "claims" "[LPrimePlane$Claim;", Cond.fieldLink RX1 18 "PrimePlane$ClaimRow" "nothing" "LPrimePlane$Claim;", Cond.methodLink RX8 236 yX8_verdict, Cond.instanceMethod yX8_verdict, Cond.selects RX8 yX8_verdict yX8_verdict, Cond.initialized RX8, Cond.code yX8_verdict cX8_verdict 6 (some .int), Cond.fieldLink RX8 31 "PrimePlane" "row" "LPrimePlane$Row;", Cond.fieldLink RX8 306 "PrimePlane$Claim" "a" "I", Cond.fieldLink RX8 307 "PrimePlane$Claim" "b" "I", Cond.fieldLink RX8 308 "PrimePlane$Claim" "c" "I", Cond.fieldLink RX8 309 "PrimePlane$Claim" "d" "I", Cond.fieldLink RX8 188 "PrimePlane$Figure" "lacking" "Z", Cond.fieldLink RX8 10 "PrimePlane" "judge" "LPrimePlane$Judge;", Cond.fieldLink RX8 312 "PrimePlane$Claim" "sort" "I", Cond.methodLink RX8 103 yX6_at]
def wsX8_truth_r2 : List Cond := [Cond.instanceMethod yX6_at, Cond.selects RX6 yX6_at yX6_at, Cond.initialized RX6, Cond.code yX6_at cX6_at 3 (some (.object "PrimePlane$Figure")), Cond.fieldLink RX6 24 "PrimePlane$Row" "size" "I", Cond.fieldLink RX6 11 "PrimePlane$Row" "figures" "[LPrimePlane$Figure;", Cond.fieldLink RX6 20 "PrimePlane$Row" "nobody" "LPrimePlane$Figure;", Cond.methodLink RX8 314 yX5_isTrue, Cond.instanceMethod yX5_isTrue, Cond.selects RX5 yX5_isTrue yX5_isTrue, Cond.initialized RX5, Cond.code yX5_isTrue cX5_isTrue 6 (some .boolean), Cond.fieldLink RX5 12 "PrimePlane$Judge" "compass" "LPrimePlane$Compass;", Cond.fieldLink RX5 22 "PrimePlane$Judge" "field" "LPrimePlane$Field;", Cond.fieldLink RX5 50 "PrimePlane$Figure" "x" "I", Cond.fieldLink RX5 54 "PrimePlane$Figure" "y" "I", Cond.methodLink RX5 35 yX2_power, Cond.instanceMethod yX2_power, Cond.selects RX2 yX2_power yX2_power, Cond.initialized RX2, Cond.code yX2_power cX2_power 3 (some .int), Cond.fieldLink RX2 12 "PrimePlane$Compass" "field" "LPrimePlane$Field;", Cond.fieldLink RX2 64 "PrimePlane$Figure" "x" "I", Cond.fieldLink RX2 67 "PrimePlane$Figure" "y" "I"]
def wsX8_truth_r3 : List Cond := [Cond.fieldLink RX2 100 "PrimePlane$Figure" "z" "I", Cond.methodLink RX2 89 yX3_rest, Cond.instanceMethod yX3_rest, Cond.selects RX3 yX3_rest yX3_rest, Cond.initialized RX3, Cond.code yX3_rest cX3_rest 2 (some .int), Cond.fieldLink RX3 9 "PrimePlane$Field" "p" "I", Cond.methodLink RX3 30 yJ9_floorMod_7cf53, Cond.static yJ9_floorMod_7cf53, Cond.initialized RJ9, Cond.code yJ9_floorMod_7cf53 cJ9_floorMod_7cf53 3 (some .int), Cond.methodLink RX5 39 yX5_isOnCircle, Cond.instanceMethod yX5_isOnCircle, Cond.selects RX5 yX5_isOnCircle yX5_isOnCircle, Cond.code yX5_isOnCircle cX5_isOnCircle 3 (some .boolean), Cond.fieldLink RX5 73 "PrimePlane$Figure" "z" "I", Cond.methodLink RX5 63 yX2_squareOf, Cond.instanceMethod yX2_squareOf, Cond.selects RX2 yX2_squareOf yX2_squareOf, Cond.code yX2_squareOf cX2_squareOf 5 (some .int), Cond.methodLink RX5 43 yX5_areInLine, Cond.instanceMethod yX5_areInLine, Cond.selects RX5 yX5_areInLine yX5_areInLine, Cond.code yX5_areInLine cX5_areInLine 4 (some .boolean)]
def wsX8_truth_r4 : List Cond := [Cond.methodLink RX5 57 yX3_rest, Cond.methodLink RX5 47 yX5_areParallel, Cond.static yX5_areParallel, Cond.code yX5_areParallel cX5_areParallel 2 (some .boolean), Cond.methodLink RX5 66 yX4_isLike, Cond.instanceMethod yX4_isLike, Cond.selects RX4 yX4_isLike yX4_isLike, Cond.initialized RX4, Cond.code yX4_isLike cX4_isLike 2 (some .boolean), Cond.fieldLink RX4 33 "PrimePlane$Figure" "x" "I", Cond.fieldLink RX4 36 "PrimePlane$Figure" "y" "I", Cond.fieldLink RX4 39 "PrimePlane$Figure" "z" "I", Cond.methodLink RX5 70 yX5_shareAPlace, Cond.instanceMethod yX5_shareAPlace, Cond.selects RX5 yX5_shareAPlace yX5_shareAPlace, Cond.code yX5_shareAPlace cX5_shareAPlace 4 (some .boolean), Cond.fieldLink RX5 28 "PrimePlane$Judge" "cross" "LPrimePlane$Figure;", Cond.methodLink RX5 76 yX2_intersection, Cond.instanceMethod yX2_intersection, Cond.selects RX2 yX2_intersection yX2_intersection, Cond.code yX2_intersection cX2_intersection 5 (some .boolean), Cond.methodLink RX2 103 yX3_ratio, Cond.instanceMethod yX3_ratio, Cond.selects RX3 yX3_ratio yX3_ratio]
def wsX8_truth_r5 : List Cond := [Cond.code yX3_ratio cX3_ratio 3 (some .int), Cond.methodLink RX3 22 yX3_rest, Cond.methodLink RX3 36 yX3_inverseOf, Cond.instanceMethod yX3_inverseOf, Cond.selects RX3 yX3_inverseOf yX3_inverseOf, Cond.code yX3_inverseOf cX3_inverseOf 2 (some .int), Cond.fieldLink RX3 15 "PrimePlane$Field" "inverses" "[I", Cond.methodLink RX2 37 yX2_putPoint, Cond.instanceMethod yX2_putPoint, Cond.selects RX2 yX2_putPoint yX2_putPoint, Cond.code yX2_putPoint cX2_putPoint 4 (some .boolean), Cond.methodLink RX2 93 yX4_put, Cond.instanceMethod yX4_put, Cond.selects RX4 yX4_put yX4_put, Cond.code yX4_put cX4_put 4 none]
def wsX8_truth : List Cond := .code yX8_truth cX8_truth 5 (some .double) :: ((wsX8_truth_r1 ++ (wsX8_truth_r2 ++ (wsX8_truth_r3 ++ (wsX8_truth_r4 ++ wsX8_truth_r5)))) ++ wsX80 ++ wsX10 ++ wsX00 ++ wsX40 ++ wsX60 ++ wsX50 ++ wsX20 ++ wsX30)
def wsX8_digest_r1 : List Cond := [Cond.constantLong RX8 279 (421), Cond.constantLong RX8 281 (31), Cond.fieldLink RX8 27 "PrimePlane" "field" "LPrimePlane$Field;", Cond.fieldLink RX8 85 "PrimePlane$Field" "p" "I", Cond.fieldLink RX8 31 "PrimePlane" "row" "LPrimePlane$Row;", Cond.fieldLink RX8 66 "PrimePlane$Row" "size" "I", Cond.fieldLink RX8 38 "PrimePlane" "claimRow" "LPrimePlane$ClaimRow;", Cond.fieldLink RX8 70 "PrimePlane$ClaimRow" "size" "I", Cond.methodLink RX8 88 yX6_freePoints, Cond.instanceMethod yX6_freePoints, Cond.selects RX6 yX6_freePoints yX6_freePoints, Cond.initialized RX6, Cond.code yX6_freePoints cX6_freePoints 3 (some .int), Cond.fieldLink RX6 24 "PrimePlane$Row" "size" "I", Cond.fieldLink RX6 32 "PrimePlane$Figure" "way" "I", Cond.methodLink RX6 28 yX6_at, Cond.instanceMethod yX6_at, Cond.selects RX6 yX6_at yX6_at, Cond.code yX6_at cX6_at 3 (some (.object "PrimePlane$Figure")), Cond.fieldLink RX6 11 "PrimePlane$Row" "figures" "[LPrimePlane$Figure;", Cond.fieldLink RX6 20 "PrimePlane$Row" "nobody" "LPrimePlane$Figure;", Cond.methodLink RX8 92 yX6_lackingOnes, Cond.instanceMethod yX6_lackingOnes, Cond.selects RX6 yX6_lackingOnes yX6_lackingOnes]
def wsX8_digest_r2 : List Cond := [Cond.code yX6_lackingOnes cX6_lackingOnes 3 (some .int), Cond.fieldLink RX6 35 "PrimePlane$Figure" "lacking" "Z", Cond.methodLink RX8 103 yX6_at, Cond.methodLink RX8 283 yX4_addTo, Cond.instanceMethod yX4_addTo, Cond.selects RX4 yX4_addTo yX4_addTo, Cond.initialized RX4, Cond.code yX4_addTo cX4_addTo 6 (some .long), Cond.constantLong RX4 50 (31), Cond.fieldLink RX4 46 "PrimePlane$Figure" "lacking" "Z", Cond.fieldLink RX4 33 "PrimePlane$Figure" "x" "I", Cond.fieldLink RX4 36 "PrimePlane$Figure" "y" "I", Cond.fieldLink RX4 39 "PrimePlane$Figure" "z" "I", Cond.methodLink RX4 52 yX4_feature, Cond.instanceMethod yX4_feature, Cond.selects RX4 yX4_feature yX4_feature, Cond.code yX4_feature cX4_feature 2 (some .int), Cond.fieldLink RX4 24 "PrimePlane$Figure" "way" "I", Cond.fieldLink RX4 9 "PrimePlane$Figure" "a" "I", Cond.fieldLink RX4 15 "PrimePlane$Figure" "b" "I", Cond.fieldLink RX4 18 "PrimePlane$Figure" "c" "I", Cond.methodLink RX4 42 yX4_sort, Cond.instanceMethod yX4_sort, Cond.selects RX4 yX4_sort yX4_sort]
def wsX8_digest_r3 : List Cond := [Cond.code yX4_sort cX4_sort 1 (some .int), Cond.methodLink RX8 233 yX1_at, Cond.instanceMethod yX1_at, Cond.selects RX1 yX1_at yX1_at, Cond.initialized RX1, Cond.code yX1_at cX1_at 3 (some (.object "PrimePlane$Claim")), Cond.fieldLink RX1 22 "PrimePlane$ClaimRow" "size" "I", Cond.fieldLink RX1 11 "PrimePlane$ClaimRow" "claims" "[LPrimePlane$Claim;", Cond.fieldLink RX1 18 "PrimePlane$ClaimRow" "nothing" "LPrimePlane$Claim;", Cond.methodLink RX8 236 yX8_verdict, Cond.instanceMethod yX8_verdict, Cond.selects RX8 yX8_verdict yX8_verdict, Cond.initialized RX8, Cond.code yX8_verdict cX8_verdict 6 (some .int), Cond.fieldLink RX8 306 "PrimePlane$Claim" "a" "I", Cond.fieldLink RX8 307 "PrimePlane$Claim" "b" "I", Cond.fieldLink RX8 308 "PrimePlane$Claim" "c" "I", Cond.fieldLink RX8 309 "PrimePlane$Claim" "d" "I", Cond.fieldLink RX8 188 "PrimePlane$Figure" "lacking" "Z", Cond.fieldLink RX8 10 "PrimePlane" "judge" "LPrimePlane$Judge;", Cond.fieldLink RX8 312 "PrimePlane$Claim" "sort" "I", Cond.methodLink RX8 314 yX5_isTrue, Cond.instanceMethod yX5_isTrue, Cond.selects RX5 yX5_isTrue yX5_isTrue]
def wsX8_digest_r4 : List Cond := [Cond.initialized RX5, Cond.code yX5_isTrue cX5_isTrue 6 (some .boolean), Cond.fieldLink RX5 12 "PrimePlane$Judge" "compass" "LPrimePlane$Compass;", Cond.fieldLink RX5 22 "PrimePlane$Judge" "field" "LPrimePlane$Field;", Cond.fieldLink RX5 50 "PrimePlane$Figure" "x" "I", Cond.fieldLink RX5 54 "PrimePlane$Figure" "y" "I", Cond.methodLink RX5 35 yX2_power, Cond.instanceMethod yX2_power, Cond.selects RX2 yX2_power yX2_power, Cond.initialized RX2, Cond.code yX2_power cX2_power 3 (some .int), Cond.fieldLink RX2 12 "PrimePlane$Compass" "field" "LPrimePlane$Field;", Cond.fieldLink RX2 64 "PrimePlane$Figure" "x" "I", Cond.fieldLink RX2 67 "PrimePlane$Figure" "y" "I", Cond.fieldLink RX2 100 "PrimePlane$Figure" "z" "I", Cond.methodLink RX2 89 yX3_rest, Cond.instanceMethod yX3_rest, Cond.selects RX3 yX3_rest yX3_rest, Cond.initialized RX3, Cond.code yX3_rest cX3_rest 2 (some .int), Cond.fieldLink RX3 9 "PrimePlane$Field" "p" "I", Cond.methodLink RX3 30 yJ9_floorMod_7cf53, Cond.static yJ9_floorMod_7cf53, Cond.initialized RJ9]
def wsX8_digest_r5 : List Cond := [Cond.code yJ9_floorMod_7cf53 cJ9_floorMod_7cf53 3 (some .int), Cond.methodLink RX5 39 yX5_isOnCircle, Cond.instanceMethod yX5_isOnCircle, Cond.selects RX5 yX5_isOnCircle yX5_isOnCircle, Cond.code yX5_isOnCircle cX5_isOnCircle 3 (some .boolean), Cond.fieldLink RX5 73 "PrimePlane$Figure" "z" "I", Cond.methodLink RX5 63 yX2_squareOf, Cond.instanceMethod yX2_squareOf, Cond.selects RX2 yX2_squareOf yX2_squareOf, Cond.code yX2_squareOf cX2_squareOf 5 (some .int), Cond.methodLink RX5 43 yX5_areInLine, Cond.instanceMethod yX5_areInLine, Cond.selects RX5 yX5_areInLine yX5_areInLine, Cond.code yX5_areInLine cX5_areInLine 4 (some .boolean), Cond.methodLink RX5 57 yX3_rest, Cond.methodLink RX5 47 yX5_areParallel, Cond.static yX5_areParallel, Cond.code yX5_areParallel cX5_areParallel 2 (some .boolean), Cond.methodLink RX5 66 yX4_isLike, Cond.instanceMethod yX4_isLike, Cond.selects RX4 yX4_isLike yX4_isLike, Cond.code yX4_isLike cX4_isLike 2 (some .boolean), Cond.methodLink RX5 70 yX5_shareAPlace, Cond.instanceMethod yX5_shareAPlace]
def wsX8_digest_r6 : List Cond := [Cond.selects RX5 yX5_shareAPlace yX5_shareAPlace, Cond.code yX5_shareAPlace cX5_shareAPlace 4 (some .boolean), Cond.fieldLink RX5 28 "PrimePlane$Judge" "cross" "LPrimePlane$Figure;", Cond.methodLink RX5 76 yX2_intersection, Cond.instanceMethod yX2_intersection, Cond.selects RX2 yX2_intersection yX2_intersection, Cond.code yX2_intersection cX2_intersection 5 (some .boolean), Cond.methodLink RX2 103 yX3_ratio, Cond.instanceMethod yX3_ratio, Cond.selects RX3 yX3_ratio yX3_ratio, Cond.code yX3_ratio cX3_ratio 3 (some .int), Cond.methodLink RX3 22 yX3_rest, Cond.methodLink RX3 36 yX3_inverseOf, Cond.instanceMethod yX3_inverseOf, Cond.selects RX3 yX3_inverseOf yX3_inverseOf, Cond.code yX3_inverseOf cX3_inverseOf 2 (some .int), Cond.fieldLink RX3 15 "PrimePlane$Field" "inverses" "[I", Cond.methodLink RX2 37 yX2_putPoint, Cond.instanceMethod yX2_putPoint, Cond.selects RX2 yX2_putPoint yX2_putPoint, Cond.code yX2_putPoint cX2_putPoint 4 (some .boolean), Cond.methodLink RX2 93 yX4_put, Cond.instanceMethod yX4_put, Cond.selects RX4 yX4_put yX4_put]
def wsX8_digest_r7 : List Cond := [Cond.code yX4_put cX4_put 4 none]
def wsX8_digest : List Cond := .code yX8_digest cX8_digest 4 (some .long) :: ((wsX8_digest_r1 ++ (wsX8_digest_r2 ++ (wsX8_digest_r3 ++ (wsX8_digest_r4 ++ (wsX8_digest_r5 ++ (wsX8_digest_r6 ++ wsX8_digest_r7)))))) ++ wsX80 ++ wsX30 ++ wsX60 ++ wsX10 ++ wsX40 ++ wsX00 ++ wsX50 ++ wsX20)
def wsJ0_coder_7d493 : List Cond := .code yJ0_coder_7d493 cJ0_coder_7d493 1 (some .byte) :: ([.fieldLink RJ0 38 "java/lang/String" "COMPACT_STRINGS" "Z", .fieldLink RJ0 15 "java/lang/String" "coder" "B"])
def wsJ0_length_8abf5 : List Cond := .code yJ0_length_8abf5 cJ0_length_8abf5 1 (some .int) :: ([.fieldLink RJ0 9 "java/lang/String" "value" "[B", .methodLink RJ0 335 yJ0_coder_7d493, .instanceMethod yJ0_coder_7d493, .selects RJ0 yJ0_coder_7d493 yJ0_coder_7d493, .initialized RJ0, .code yJ0_coder_7d493 cJ0_coder_7d493 1 (some .byte), .fieldLink RJ0 38 "java/lang/String" "COMPACT_STRINGS" "Z", .fieldLink RJ0 15 "java/lang/String" "coder" "B"])
def wsJ0_isLatin1_aae02 : List Cond := .code yJ0_isLatin1_aae02 cJ0_isLatin1_aae02 1 (some .boolean) :: ([.fieldLink RJ0 38 "java/lang/String" "COMPACT_STRINGS" "Z", .fieldLink RJ0 15 "java/lang/String" "coder" "B"])
def wsJ3_checkIndex_8e157 : List Cond := .code yJ3_checkIndex_8e157 cJ3_checkIndex_8e157 3 (some .int) :: ([])
def wsJ0_checkIndex_df160 : List Cond := .code yJ0_checkIndex_df160 cJ0_checkIndex_df160 2 none :: ([.fieldLink RJ0 1053 "jdk/internal/util/Preconditions" "SIOOBE_FORMATTER" "Ljava/util/function/BiFunction;", .methodLink RJ0 1059 yJ3_checkIndex_8e157, .static yJ3_checkIndex_8e157, .initialized RJ3, .code yJ3_checkIndex_8e157 cJ3_checkIndex_8e157 3 (some .int)])
def wsJ1_charAt_3b067 : List Cond := .code yJ1_charAt_3b067 cJ1_charAt_3b067 2 (some .char) :: ([.methodLink RJ1 9 yJ0_checkIndex_df160, .static yJ0_checkIndex_df160, .initialized RJ0, .code yJ0_checkIndex_df160 cJ0_checkIndex_df160 2 none, .fieldLink RJ0 1053 "jdk/internal/util/Preconditions" "SIOOBE_FORMATTER" "Ljava/util/function/BiFunction;", .methodLink RJ0 1059 yJ3_checkIndex_8e157, .static yJ3_checkIndex_8e157, .initialized RJ3, .code yJ3_checkIndex_8e157 cJ3_checkIndex_8e157 3 (some .int)])
def wsJ2_length_9d52b : List Cond := .code yJ2_length_9d52b cJ2_length_9d52b 1 (some .int) :: ([])
def wsJ2_checkIndex_2214a : List Cond := .code yJ2_checkIndex_2214a cJ2_checkIndex_2214a 2 none :: ([.methodLink RJ2 48 yJ2_length_9d52b, .static yJ2_length_9d52b, .initialized RJ2, .code yJ2_length_9d52b cJ2_length_9d52b 1 (some .int), .methodLink RJ2 414 yJ0_checkIndex_df160, .static yJ0_checkIndex_df160, .initialized RJ0, .code yJ0_checkIndex_df160 cJ0_checkIndex_df160 2 none, .fieldLink RJ0 1053 "jdk/internal/util/Preconditions" "SIOOBE_FORMATTER" "Ljava/util/function/BiFunction;", .methodLink RJ0 1059 yJ3_checkIndex_8e157, .static yJ3_checkIndex_8e157, .initialized RJ3, .code yJ3_checkIndex_8e157 cJ3_checkIndex_8e157 3 (some .int)])
def wsJ2_getChar_3b067 : List Cond := .code yJ2_getChar_3b067 cJ2_getChar_3b067 2 (some .char) :: ([.fieldLink RJ2 44 "java/lang/StringUTF16" "$assertionsDisabled" "Z", .fieldLink RJ2 59 "java/lang/StringUTF16" "HI_BYTE_SHIFT" "I", .fieldLink RJ2 63 "java/lang/StringUTF16" "LO_BYTE_SHIFT" "I", .methodLink RJ2 48 yJ2_length_9d52b, .static yJ2_length_9d52b, .initialized RJ2, .code yJ2_length_9d52b cJ2_length_9d52b 1 (some .int)])
def wsJ2_charAt_3b067 : List Cond := .code yJ2_charAt_3b067 cJ2_charAt_3b067 2 (some .char) :: ([.methodLink RJ2 67 yJ2_checkIndex_2214a, .static yJ2_checkIndex_2214a, .initialized RJ2, .code yJ2_checkIndex_2214a cJ2_checkIndex_2214a 2 none, .methodLink RJ2 48 yJ2_length_9d52b, .static yJ2_length_9d52b, .code yJ2_length_9d52b cJ2_length_9d52b 1 (some .int), .methodLink RJ2 414 yJ0_checkIndex_df160, .static yJ0_checkIndex_df160, .initialized RJ0, .code yJ0_checkIndex_df160 cJ0_checkIndex_df160 2 none, .fieldLink RJ0 1053 "jdk/internal/util/Preconditions" "SIOOBE_FORMATTER" "Ljava/util/function/BiFunction;", .methodLink RJ0 1059 yJ3_checkIndex_8e157, .static yJ3_checkIndex_8e157, .initialized RJ3, .code yJ3_checkIndex_8e157 cJ3_checkIndex_8e157 3 (some .int), .methodLink RJ2 71 yJ2_getChar_3b067, .static yJ2_getChar_3b067, .code yJ2_getChar_3b067 cJ2_getChar_3b067 2 (some .char), .fieldLink RJ2 44 "java/lang/StringUTF16" "$assertionsDisabled" "Z", .fieldLink RJ2 59 "java/lang/StringUTF16" "HI_BYTE_SHIFT" "I", .fieldLink RJ2 63 "java/lang/StringUTF16" "LO_BYTE_SHIFT" "I"])
def wsJ0_charAt_5068e_r1 : List Cond := [Cond.fieldLink RJ0 9 "java/lang/String" "value" "[B", Cond.methodLink RJ0 492 yJ0_isLatin1_aae02, Cond.instanceMethod yJ0_isLatin1_aae02, Cond.selects RJ0 yJ0_isLatin1_aae02 yJ0_isLatin1_aae02, Cond.initialized RJ0, Cond.code yJ0_isLatin1_aae02 cJ0_isLatin1_aae02 1 (some .boolean), Cond.fieldLink RJ0 38 "java/lang/String" "COMPACT_STRINGS" "Z", Cond.fieldLink RJ0 15 "java/lang/String" "coder" "B", Cond.methodLink RJ0 495 yJ1_charAt_3b067, Cond.static yJ1_charAt_3b067, Cond.initialized RJ1, Cond.code yJ1_charAt_3b067 cJ1_charAt_3b067 2 (some .char), Cond.methodLink RJ1 9 yJ0_checkIndex_df160, Cond.static yJ0_checkIndex_df160, Cond.code yJ0_checkIndex_df160 cJ0_checkIndex_df160 2 none, Cond.fieldLink RJ0 1053 "jdk/internal/util/Preconditions" "SIOOBE_FORMATTER" "Ljava/util/function/BiFunction;", Cond.methodLink RJ0 1059 yJ3_checkIndex_8e157, Cond.static yJ3_checkIndex_8e157, Cond.initialized RJ3, Cond.code yJ3_checkIndex_8e157 cJ3_checkIndex_8e157 3 (some .int), Cond.methodLink RJ0 498 yJ2_charAt_3b067, Cond.static yJ2_charAt_3b067, Cond.initialized RJ2, Cond.code yJ2_charAt_3b067 cJ2_charAt_3b067 2 (some .char)]
def wsJ0_charAt_5068e_r2 : List Cond := [Cond.methodLink RJ2 67 yJ2_checkIndex_2214a, Cond.static yJ2_checkIndex_2214a, Cond.code yJ2_checkIndex_2214a cJ2_checkIndex_2214a 2 none, Cond.methodLink RJ2 48 yJ2_length_9d52b, Cond.static yJ2_length_9d52b, Cond.code yJ2_length_9d52b cJ2_length_9d52b 1 (some .int), Cond.methodLink RJ2 414 yJ0_checkIndex_df160, Cond.methodLink RJ2 71 yJ2_getChar_3b067, Cond.static yJ2_getChar_3b067, Cond.code yJ2_getChar_3b067 cJ2_getChar_3b067 2 (some .char), Cond.fieldLink RJ2 44 "java/lang/StringUTF16" "$assertionsDisabled" "Z", Cond.fieldLink RJ2 59 "java/lang/StringUTF16" "HI_BYTE_SHIFT" "I", Cond.fieldLink RJ2 63 "java/lang/StringUTF16" "LO_BYTE_SHIFT" "I"]
def wsJ0_charAt_5068e : List Cond := .code yJ0_charAt_5068e cJ0_charAt_5068e 2 (some .char) :: ((wsJ0_charAt_5068e_r1 ++ wsJ0_charAt_5068e_r2))
def wsL_below : List Cond := .code yL_below cL_below 2 (some .int) :: ([.constant RL 7 (2147483647)])
def wsL_cell : List Cond := .code yL_cell cL_cell 2 (some .int) :: ([.constant RL 8 (790386105)])
def wsL_square : List Cond := .code yL_square cL_square 5 (some .int) :: ([])
def wsL_has_r1 : List Cond := [Cond.methodLink RL 9 yX8_number, Cond.instanceMethod yX8_number, Cond.selects RX8 yX8_number yX8_number, Cond.initialized RX8, Cond.code yX8_number cX8_number 4 (some .int), Cond.classLink RX8 95 "java/lang/IndexOutOfBoundsException", Cond.initialized "java/lang/IndexOutOfBoundsException", Cond.classLink RX8 116 "java/lang/IllegalStateException", Cond.initialized "java/lang/IllegalStateException", Cond.fieldLink RX8 31 "PrimePlane" "row" "LPrimePlane$Row;", Cond.fieldLink RX8 188 "PrimePlane$Figure" "lacking" "Z", Cond.fieldLink RX8 194 "PrimePlane$Figure" "x" "I", Cond.fieldLink RX8 197 "PrimePlane$Figure" "y" "I", Cond.fieldLink RX8 200 "PrimePlane$Figure" "z" "I", Cond.methodLink RX8 100 yX6_has, Cond.instanceMethod yX6_has, Cond.selects RX6 yX6_has yX6_has, Cond.initialized RX6, Cond.code yX6_has cX6_has 2 (some .boolean), Cond.fieldLink RX6 24 "PrimePlane$Row" "size" "I", Cond.methodLink RX8 103 yX6_at, Cond.instanceMethod yX6_at, Cond.selects RX6 yX6_at yX6_at, Cond.code yX6_at cX6_at 3 (some (.object "PrimePlane$Figure"))]
def wsL_has_r2 : List Cond := [Cond.fieldLink RX6 11 "PrimePlane$Row" "figures" "[LPrimePlane$Figure;", Cond.fieldLink RX6 20 "PrimePlane$Row" "nobody" "LPrimePlane$Figure;", Cond.methodLink RL 15 yX8_object, Cond.instanceMethod yX8_object, Cond.selects RX8 yX8_object yX8_object, Cond.code yX8_object cX8_object 3 (some .int), Cond.methodLink RX8 183 yX4_feature, Cond.instanceMethod yX4_feature, Cond.selects RX4 yX4_feature yX4_feature, Cond.initialized RX4, Cond.code yX4_feature cX4_feature 2 (some .int), Cond.fieldLink RX4 24 "PrimePlane$Figure" "way" "I", Cond.fieldLink RX4 9 "PrimePlane$Figure" "a" "I", Cond.fieldLink RX4 15 "PrimePlane$Figure" "b" "I", Cond.fieldLink RX4 18 "PrimePlane$Figure" "c" "I", Cond.fieldLink RX4 46 "PrimePlane$Figure" "lacking" "Z", Cond.methodLink RX4 42 yX4_sort, Cond.instanceMethod yX4_sort, Cond.selects RX4 yX4_sort yX4_sort, Cond.code yX4_sort cX4_sort 1 (some .int), Cond.methodLink RL 18 yL_square, Cond.static yL_square, Cond.initialized RL, Cond.code yL_square cL_square 5 (some .int)]
def wsL_has : List Cond := .code yL_has cL_has 9 (some .boolean) :: ((wsL_has_r1 ++ wsL_has_r2) ++ wsX80 ++ wsX40 ++ wsX60 ++ (vx_atS RX8 99 "java/lang/IndexOutOfBoundsException" ["java/lang/RuntimeException", "java/lang/Exception"]).filter goodWord ++ (vx_atS RX8 120 "java/lang/IllegalStateException" ["java/lang/RuntimeException", "java/lang/Exception"]).filter goodWord)
def wsL_pick : List Cond := .code yL_pick cL_pick 7 (some .int) :: ([.methodLink RL 46 yL_below, .static yL_below, .initialized RL, .code yL_below cL_below 2 (some .int), .constant RL 7 (2147483647)])
def wsL_build_r1 : List Cond := [Cond.arrayClass .int, Cond.classLink RL 28 RJ0, Cond.methodLink RL 42 yL_cell, Cond.static yL_cell, Cond.initialized RL, Cond.code yL_cell cL_cell 2 (some .int), Cond.constant RL 8 (790386105), Cond.methodLink RL 46 yL_below, Cond.static yL_below, Cond.code yL_below cL_below 2 (some .int), Cond.constant RL 7 (2147483647), Cond.methodLink RL 49 yX8_point, Cond.instanceMethod yX8_point, Cond.selects RX8 yX8_point yX8_point, Cond.initialized RX8, Cond.code yX8_point cX8_point 6 (some .int), Cond.classLink RX8 95 "java/lang/IndexOutOfBoundsException", Cond.initialized "java/lang/IndexOutOfBoundsException", Cond.classLink RX8 59 "java/lang/IllegalArgumentException", Cond.initialized "java/lang/IllegalArgumentException", Cond.classLink RX8 116 "java/lang/IllegalStateException", Cond.initialized "java/lang/IllegalStateException", Cond.fieldLink RX8 31 "PrimePlane" "row" "LPrimePlane$Row;", Cond.fieldLink RX8 27 "PrimePlane" "field" "LPrimePlane$Field;"]
def wsL_build_r2 : List Cond := [Cond.fieldLink RX8 66 "PrimePlane$Row" "size" "I", Cond.fieldLink RX8 137 "PrimePlane$Figure" "rank" "I", Cond.methodLink RX8 100 yX6_has, Cond.instanceMethod yX6_has, Cond.selects RX6 yX6_has yX6_has, Cond.initialized RX6, Cond.code yX6_has cX6_has 2 (some .boolean), Cond.fieldLink RX6 24 "PrimePlane$Row" "size" "I", Cond.methodLink RX8 103 yX6_at, Cond.instanceMethod yX6_at, Cond.selects RX6 yX6_at yX6_at, Cond.code yX6_at cX6_at 3 (some (.object "PrimePlane$Figure")), Cond.fieldLink RX6 11 "PrimePlane$Row" "figures" "[LPrimePlane$Figure;", Cond.fieldLink RX6 20 "PrimePlane$Row" "nobody" "LPrimePlane$Figure;", Cond.methodLink RX8 107 yX4_sort, Cond.instanceMethod yX4_sort, Cond.selects RX4 yX4_sort yX4_sort, Cond.initialized RX4, Cond.code yX4_sort cX4_sort 1 (some .int), Cond.fieldLink RX4 24 "PrimePlane$Figure" "way" "I", Cond.methodLink RX8 71 yX3_has, Cond.instanceMethod yX3_has, Cond.selects RX3 yX3_has yX3_has, Cond.initialized RX3]
def wsL_build_r3 : List Cond := [Cond.code yX3_has cX3_has 2 (some .boolean), Cond.fieldLink RX3 9 "PrimePlane$Field" "p" "I", Cond.methodLink RX8 121 yX6_next, Cond.instanceMethod yX6_next, Cond.selects RX6 yX6_next yX6_next, Cond.code yX6_next cX6_next 1 (some (.object "PrimePlane$Figure")), Cond.methodLink RX6 28 yX6_at, Cond.methodLink RX8 125 yX4_become, Cond.instanceMethod yX4_become, Cond.selects RX4 yX4_become yX4_become, Cond.code yX4_become cX4_become 5 none, Cond.fieldLink RX4 9 "PrimePlane$Figure" "a" "I", Cond.fieldLink RX4 15 "PrimePlane$Figure" "b" "I", Cond.fieldLink RX4 18 "PrimePlane$Figure" "c" "I", Cond.methodLink RX8 129 yX4_tell, Cond.instanceMethod yX4_tell, Cond.selects RX4 yX4_tell yX4_tell, Cond.code yX4_tell cX4_tell 3 none, Cond.fieldLink RX4 27 "PrimePlane$Figure" "toldX" "I", Cond.fieldLink RX4 30 "PrimePlane$Figure" "toldY" "I", Cond.methodLink RX8 133 yX8_remake, Cond.instanceMethod yX8_remake, Cond.selects RX8 yX8_remake yX8_remake, Cond.code yX8_remake cX8_remake 6 none]
def wsL_build_r4 : List Cond := [Cond.fieldLink RX8 287 "PrimePlane$Figure" "a" "I", Cond.fieldLink RX8 290 "PrimePlane$Figure" "b" "I", Cond.fieldLink RX8 293 "PrimePlane$Figure" "c" "I", Cond.fieldLink RX8 188 "PrimePlane$Figure" "lacking" "Z", Cond.fieldLink RX8 20 "PrimePlane" "compass" "LPrimePlane$Compass;", Cond.methodLink RX8 296 yX2_draw, Cond.instanceMethod yX2_draw, Cond.selects RX2 yX2_draw yX2_draw, Cond.initialized RX2, Cond.code yX2_draw cX2_draw 5 (some .boolean), Cond.fieldLink RX2 27 "PrimePlane$Figure" "way" "I", Cond.fieldLink RX2 31 "PrimePlane$Figure" "toldX" "I", Cond.fieldLink RX2 34 "PrimePlane$Figure" "toldY" "I", Cond.fieldLink RX2 23 "PrimePlane$Compass" "chord" "LPrimePlane$Figure;", Cond.fieldLink RX2 64 "PrimePlane$Figure" "x" "I", Cond.fieldLink RX2 67 "PrimePlane$Figure" "y" "I", Cond.methodLink RX2 37 yX2_putPoint, Cond.instanceMethod yX2_putPoint, Cond.selects RX2 yX2_putPoint yX2_putPoint, Cond.code yX2_putPoint cX2_putPoint 4 (some .boolean), Cond.fieldLink RX2 12 "PrimePlane$Compass" "field" "LPrimePlane$Field;", Cond.methodLink RX2 89 yX3_rest, Cond.instanceMethod yX3_rest, Cond.selects RX3 yX3_rest yX3_rest]
def wsL_build_r5 : List Cond := [Cond.code yX3_rest cX3_rest 2 (some .int), Cond.methodLink RX3 30 yJ9_floorMod_7cf53, Cond.static yJ9_floorMod_7cf53, Cond.initialized RJ9, Cond.code yJ9_floorMod_7cf53 cJ9_floorMod_7cf53 3 (some .int), Cond.methodLink RX2 93 yX4_put, Cond.instanceMethod yX4_put, Cond.selects RX4 yX4_put yX4_put, Cond.code yX4_put cX4_put 4 none, Cond.fieldLink RX4 33 "PrimePlane$Figure" "x" "I", Cond.fieldLink RX4 36 "PrimePlane$Figure" "y" "I", Cond.fieldLink RX4 39 "PrimePlane$Figure" "z" "I", Cond.methodLink RX2 41 yX2_pointOnLine, Cond.instanceMethod yX2_pointOnLine, Cond.selects RX2 yX2_pointOnLine yX2_pointOnLine, Cond.code yX2_pointOnLine cX2_pointOnLine 4 (some .boolean), Cond.fieldLink RX2 100 "PrimePlane$Figure" "z" "I", Cond.methodLink RX2 103 yX3_ratio, Cond.instanceMethod yX3_ratio, Cond.selects RX3 yX3_ratio yX3_ratio, Cond.code yX3_ratio cX3_ratio 3 (some .int), Cond.methodLink RX3 22 yX3_rest, Cond.methodLink RX3 36 yX3_inverseOf, Cond.instanceMethod yX3_inverseOf]
def wsL_build_r6 : List Cond := [Cond.selects RX3 yX3_inverseOf yX3_inverseOf, Cond.code yX3_inverseOf cX3_inverseOf 2 (some .int), Cond.fieldLink RX3 15 "PrimePlane$Field" "inverses" "[I", Cond.methodLink RX2 45 yX2_intersection, Cond.instanceMethod yX2_intersection, Cond.selects RX2 yX2_intersection yX2_intersection, Cond.code yX2_intersection cX2_intersection 5 (some .boolean), Cond.methodLink RX2 49 yX2_lineAndCircle, Cond.instanceMethod yX2_lineAndCircle, Cond.selects RX2 yX2_lineAndCircle yX2_lineAndCircle, Cond.code yX2_lineAndCircle cX2_lineAndCircle 15 (some .boolean), Cond.methodLink RX2 107 yX2_power, Cond.instanceMethod yX2_power, Cond.selects RX2 yX2_power yX2_power, Cond.code yX2_power cX2_power 3 (some .int), Cond.methodLink RX2 110 yX3_rootOf, Cond.instanceMethod yX3_rootOf, Cond.selects RX3 yX3_rootOf yX3_rootOf, Cond.code yX3_rootOf cX3_rootOf 3 (some .int), Cond.fieldLink RX3 19 "PrimePlane$Field" "roots" "[I", Cond.methodLink RX2 52 yX2_equalPowers, Cond.instanceMethod yX2_equalPowers, Cond.selects RX2 yX2_equalPowers yX2_equalPowers, Cond.code yX2_equalPowers cX2_equalPowers 5 (some .boolean)]
def wsL_build_r7 : List Cond := [Cond.methodLink RX2 113 yX2_putLine, Cond.instanceMethod yX2_putLine, Cond.selects RX2 yX2_putLine yX2_putLine, Cond.code yX2_putLine cX2_putLine 7 (some .boolean), Cond.methodLink RX2 97 yX3_inverseOf, Cond.methodLink RX2 55 yX2_middle, Cond.instanceMethod yX2_middle, Cond.selects RX2 yX2_middle yX2_middle, Cond.code yX2_middle cX2_middle 4 (some .boolean), Cond.methodLink RX2 58 yX2_mirror, Cond.instanceMethod yX2_mirror, Cond.selects RX2 yX2_mirror yX2_mirror, Cond.code yX2_mirror cX2_mirror 5 (some .boolean), Cond.methodLink RX2 61 yX2_lineThrough, Cond.instanceMethod yX2_lineThrough, Cond.selects RX2 yX2_lineThrough yX2_lineThrough, Cond.code yX2_lineThrough cX2_lineThrough 4 (some .boolean), Cond.methodLink RX2 70 yX2_lineAlong, Cond.instanceMethod yX2_lineAlong, Cond.selects RX2 yX2_lineAlong yX2_lineAlong, Cond.code yX2_lineAlong cX2_lineAlong 5 (some .boolean), Cond.methodLink RX2 74 yX2_lineBetween, Cond.instanceMethod yX2_lineBetween, Cond.selects RX2 yX2_lineBetween yX2_lineBetween]
def wsL_build_r8 : List Cond := [Cond.code yX2_lineBetween cX2_lineBetween 5 (some .boolean), Cond.methodLink RX2 77 yX2_squareOf, Cond.instanceMethod yX2_squareOf, Cond.selects RX2 yX2_squareOf yX2_squareOf, Cond.code yX2_squareOf cX2_squareOf 5 (some .int), Cond.methodLink RX2 81 yX2_putCircle, Cond.instanceMethod yX2_putCircle, Cond.selects RX2 yX2_putCircle yX2_putCircle, Cond.code yX2_putCircle cX2_putCircle 5 (some .boolean), Cond.methodLink RX2 85 yX2_circleThrough, Cond.instanceMethod yX2_circleThrough, Cond.selects RX2 yX2_circleThrough yX2_circleThrough, Cond.code yX2_circleThrough cX2_circleThrough 14 (some .boolean), Cond.methodLink RL 15 yX8_object, Cond.instanceMethod yX8_object, Cond.selects RX8 yX8_object yX8_object, Cond.code yX8_object cX8_object 3 (some .int), Cond.methodLink RX8 183 yX4_feature, Cond.instanceMethod yX4_feature, Cond.selects RX4 yX4_feature yX4_feature, Cond.code yX4_feature cX4_feature 2 (some .int), Cond.fieldLink RX4 46 "PrimePlane$Figure" "lacking" "Z", Cond.methodLink RX4 42 yX4_sort, Cond.methodLink RL 53 yL_pick]
def wsL_build_r9 : List Cond := [Cond.static yL_pick, Cond.code yL_pick cL_pick 7 (some .int), Cond.methodLink RL 57 yJ0_length_8abf5, Cond.instanceMethod yJ0_length_8abf5, Cond.selects RJ0 yJ0_length_8abf5 yJ0_length_8abf5, Cond.initialized RJ0, Cond.code yJ0_length_8abf5 cJ0_length_8abf5 1 (some .int), Cond.fieldLink RJ0 9 "java/lang/String" "value" "[B", Cond.methodLink RJ0 335 yJ0_coder_7d493, Cond.instanceMethod yJ0_coder_7d493, Cond.selects RJ0 yJ0_coder_7d493 yJ0_coder_7d493, Cond.code yJ0_coder_7d493 cJ0_coder_7d493 1 (some .byte), Cond.fieldLink RJ0 38 "java/lang/String" "COMPACT_STRINGS" "Z", Cond.fieldLink RJ0 15 "java/lang/String" "coder" "B", Cond.methodLink RL 61 yJ0_charAt_5068e, Cond.instanceMethod yJ0_charAt_5068e, Cond.selects RJ0 yJ0_charAt_5068e yJ0_charAt_5068e, Cond.code yJ0_charAt_5068e cJ0_charAt_5068e 2 (some .char), Cond.methodLink RJ0 492 yJ0_isLatin1_aae02, Cond.instanceMethod yJ0_isLatin1_aae02, Cond.selects RJ0 yJ0_isLatin1_aae02 yJ0_isLatin1_aae02, Cond.code yJ0_isLatin1_aae02 cJ0_isLatin1_aae02 1 (some .boolean), Cond.methodLink RJ0 495 yJ1_charAt_3b067, Cond.static yJ1_charAt_3b067]
def wsL_build_r10 : List Cond := [Cond.initialized RJ1, Cond.code yJ1_charAt_3b067 cJ1_charAt_3b067 2 (some .char), Cond.methodLink RJ1 9 yJ0_checkIndex_df160, Cond.static yJ0_checkIndex_df160, Cond.code yJ0_checkIndex_df160 cJ0_checkIndex_df160 2 none, Cond.fieldLink RJ0 1053 "jdk/internal/util/Preconditions" "SIOOBE_FORMATTER" "Ljava/util/function/BiFunction;", Cond.methodLink RJ0 1059 yJ3_checkIndex_8e157, Cond.static yJ3_checkIndex_8e157, Cond.initialized RJ3, Cond.code yJ3_checkIndex_8e157 cJ3_checkIndex_8e157 3 (some .int), Cond.methodLink RJ0 498 yJ2_charAt_3b067, Cond.static yJ2_charAt_3b067, Cond.initialized RJ2, Cond.code yJ2_charAt_3b067 cJ2_charAt_3b067 2 (some .char), Cond.methodLink RJ2 67 yJ2_checkIndex_2214a, Cond.static yJ2_checkIndex_2214a, Cond.code yJ2_checkIndex_2214a cJ2_checkIndex_2214a 2 none, Cond.methodLink RJ2 48 yJ2_length_9d52b, Cond.static yJ2_length_9d52b, Cond.code yJ2_length_9d52b cJ2_length_9d52b 1 (some .int), Cond.methodLink RJ2 414 yJ0_checkIndex_df160, Cond.methodLink RJ2 71 yJ2_getChar_3b067, Cond.static yJ2_getChar_3b067, Cond.code yJ2_getChar_3b067 cJ2_getChar_3b067 2 (some .char)]
def wsL_build_r11 : List Cond := [Cond.fieldLink RJ2 44 "java/lang/StringUTF16" "$assertionsDisabled" "Z", Cond.fieldLink RJ2 59 "java/lang/StringUTF16" "HI_BYTE_SHIFT" "I", Cond.fieldLink RJ2 63 "java/lang/StringUTF16" "LO_BYTE_SHIFT" "I", Cond.methodLink RL 65 yX8_make, Cond.instanceMethod yX8_make, Cond.selects RX8 yX8_make yX8_make, Cond.code yX8_make cX8_make 9 (some .int), Cond.fieldLink RX8 145 "PrimePlane" "PARENTS" "[I", Cond.methodLink RX8 140 yX8_isWayToMake, Cond.static yX8_isWayToMake, Cond.code yX8_isWayToMake cX8_isWayToMake 1 (some .boolean), Cond.methodLink RX8 149 yX8_entry, Cond.static yX8_entry, Cond.code yX8_entry cX8_entry 2 (some .int), Cond.methodLink RX8 153 yX8_isThere, Cond.instanceMethod yX8_isThere, Cond.selects RX8 yX8_isThere yX8_isThere, Cond.code yX8_isThere cX8_isThere 3 (some .boolean), Cond.methodLink RX8 159 yX8_fits, Cond.instanceMethod yX8_fits, Cond.selects RX8 yX8_fits yX8_fits, Cond.code yX8_fits cX8_fits 3 (some .boolean)]
def wsL_build : List Cond := .code yL_build cL_build 15 (some .int) :: ((wsL_build_r1 ++ (wsL_build_r2 ++ (wsL_build_r3 ++ (wsL_build_r4 ++ (wsL_build_r5 ++ (wsL_build_r6 ++ (wsL_build_r7 ++ (wsL_build_r8 ++ (wsL_build_r9 ++ (wsL_build_r10 ++ wsL_build_r11)))))))))) ++ wsX80 ++ wsX60 ++ wsX40 ++ wsX30 ++ wsX20 ++ (vx_atS RX8 99 "java/lang/IndexOutOfBoundsException" ["java/lang/RuntimeException", "java/lang/Exception"]).filter goodWord ++ (vx_atS RX8 63 "java/lang/IllegalArgumentException" ["java/lang/RuntimeException", "java/lang/Exception"]).filter goodWord ++ (vx_atS RX8 120 "java/lang/IllegalStateException" ["java/lang/RuntimeException", "java/lang/Exception"]).filter goodWord)
def wsL_law0_r1 : List Cond := [Cond.classLink RL 10 RX8, Cond.instantiable RX8 6, Cond.initialized RX8, Cond.fieldLink RL 90 "PrimePlaneLaw" "PRIMES" "[I", Cond.arrayClass .int, Cond.methodLink RL 89 yX8_init, Cond.instanceMethod yX8_init, Cond.code yX8_init cX8_init 1 none, Cond.methodLink RX8 1 objectInit, Cond.instanceMethod objectInit, Cond.code objectInit ⟨#[0xb1]⟩ 1 none, Cond.classLink RX8 7 RX5, Cond.instantiable RX5 4, Cond.initialized RX5, Cond.fieldLink RX8 10 "PrimePlane" "judge" "LPrimePlane$Judge;", Cond.fieldLink RX8 16 "PrimePlane$Judge" "compass" "LPrimePlane$Compass;", Cond.fieldLink RX8 20 "PrimePlane" "compass" "LPrimePlane$Compass;", Cond.fieldLink RX8 21 "PrimePlane$Compass" "field" "LPrimePlane$Field;", Cond.fieldLink RX8 27 "PrimePlane" "field" "LPrimePlane$Field;", Cond.classLink RX8 28 RX6, Cond.instantiable RX6 3, Cond.initialized RX6, Cond.fieldLink RX8 31 "PrimePlane" "row" "LPrimePlane$Row;", Cond.classLink RX8 35 RX1]
def wsL_law0_r2 : List Cond := [Cond.instantiable RX1 3, Cond.initialized RX1, Cond.fieldLink RX8 38 "PrimePlane" "claimRow" "LPrimePlane$ClaimRow;", Cond.classLink RX8 42 RX7, Cond.instantiable RX7 2, Cond.initialized RX7, Cond.fieldLink RX8 45 "PrimePlane" "trail" "LPrimePlane$Trail;", Cond.instanceMethod yX5_init, Cond.code yX5_init cX5_init 1 none, Cond.methodLink RX5 3 objectInit, Cond.classLink RX5 9 RX2, Cond.instantiable RX2 2, Cond.initialized RX2, Cond.fieldLink RX5 12 "PrimePlane$Judge" "compass" "LPrimePlane$Compass;", Cond.fieldLink RX5 18 "PrimePlane$Compass" "field" "LPrimePlane$Field;", Cond.fieldLink RX5 22 "PrimePlane$Judge" "field" "LPrimePlane$Field;", Cond.classLink RX5 23 RX4, Cond.instantiable RX4 13, Cond.initialized RX4, Cond.fieldLink RX5 28 "PrimePlane$Judge" "cross" "LPrimePlane$Figure;", Cond.fieldLink RX5 32 "PrimePlane$Judge" "ring" "LPrimePlane$Figure;", Cond.instanceMethod yX2_init, Cond.code yX2_init cX2_init 1 none, Cond.methodLink RX2 3 objectInit]
def wsL_law0_r3 : List Cond := [Cond.classLink RX2 9 RX3, Cond.instantiable RX3 3, Cond.initialized RX3, Cond.fieldLink RX2 12 "PrimePlane$Compass" "field" "LPrimePlane$Field;", Cond.classLink RX2 18 RX4, Cond.fieldLink RX2 23 "PrimePlane$Compass" "chord" "LPrimePlane$Figure;", Cond.instanceMethod yX3_init, Cond.code yX3_init cX3_init 1 none, Cond.methodLink RX3 3 objectInit, Cond.fieldLink RX3 9 "PrimePlane$Field" "p" "I", Cond.fieldLink RX3 15 "PrimePlane$Field" "inverses" "[I", Cond.fieldLink RX3 19 "PrimePlane$Field" "roots" "[I", Cond.methodLink RX2 20 yX4_init, Cond.instanceMethod yX4_init, Cond.code yX4_init cX4_init 2 none, Cond.methodLink RX4 3 objectInit, Cond.fieldLink RX4 9 "PrimePlane$Figure" "a" "I", Cond.fieldLink RX4 15 "PrimePlane$Figure" "b" "I", Cond.fieldLink RX4 18 "PrimePlane$Figure" "c" "I", Cond.fieldLink RX4 21 "PrimePlane$Figure" "rank" "I", Cond.methodLink RX5 25 yX4_init, Cond.methodLink RX8 30 yX6_init, Cond.instanceMethod yX6_init, Cond.code yX6_init cX6_init 2 none]
def wsL_law0_r4 : List Cond := [Cond.methodLink RX6 3 objectInit, Cond.classLink RX6 9 RX4, Cond.fieldLink RX6 11 "PrimePlane$Row" "figures" "[LPrimePlane$Figure;", Cond.fieldLink RX6 20 "PrimePlane$Row" "nobody" "LPrimePlane$Figure;", Cond.methodLink RX6 17 yX4_init, Cond.methodLink RX8 37 yX1_init, Cond.instanceMethod yX1_init, Cond.code yX1_init cX1_init 2 none, Cond.methodLink RX1 3 objectInit, Cond.classLink RX1 9 RX0, Cond.fieldLink RX1 11 "PrimePlane$ClaimRow" "claims" "[LPrimePlane$Claim;", Cond.instantiable RX0 5, Cond.initialized RX0, Cond.fieldLink RX1 18 "PrimePlane$ClaimRow" "nothing" "LPrimePlane$Claim;", Cond.instanceMethod yX0_init, Cond.code yX0_init cX0_init 1 none, Cond.methodLink RX0 3 objectInit, Cond.fieldLink RX0 9 "PrimePlane$Claim" "a" "I", Cond.fieldLink RX0 15 "PrimePlane$Claim" "b" "I", Cond.fieldLink RX0 18 "PrimePlane$Claim" "c" "I", Cond.fieldLink RX0 21 "PrimePlane$Claim" "d" "I", Cond.instanceMethod yX7_init, Cond.code yX7_init cX7_init 1 none, Cond.methodLink RX7 1 objectInit]
def wsL_law0_r5 : List Cond := [Cond.classLink RX7 7 RX6, Cond.fieldLink RX7 10 "PrimePlane$Trail" "seen" "LPrimePlane$Row;", Cond.methodLink RX7 9 yX6_init, Cond.methodLink RX8 49 yX3_choose, Cond.instanceMethod yX3_choose, Cond.selects RX3 yX3_choose yX3_choose, Cond.code yX3_choose cX3_choose 4 none, Cond.methodLink RX3 22 yX3_rest, Cond.instanceMethod yX3_rest, Cond.selects RX3 yX3_rest yX3_rest, Cond.code yX3_rest cX3_rest 2 (some .int), Cond.methodLink RX3 30 yJ9_floorMod_7cf53, Cond.static yJ9_floorMod_7cf53, Cond.initialized RJ9, Cond.code yJ9_floorMod_7cf53 cJ9_floorMod_7cf53 3 (some .int), Cond.methodLink RX3 26 yX3_keep, Cond.static yX3_keep, Cond.code yX3_keep cX3_keep 3 none, Cond.methodLink RL 42 yL_cell, Cond.static yL_cell, Cond.initialized RL, Cond.code yL_cell cL_cell 2 (some .int), Cond.constant RL 8 (790386105), Cond.methodLink RL 46 yL_below]
def wsL_law0_r6 : List Cond := [Cond.static yL_below, Cond.code yL_below cL_below 2 (some .int), Cond.constant RL 7 (2147483647), Cond.methodLink RL 94 yX8_begin, Cond.instanceMethod yX8_begin, Cond.selects RX8 yX8_begin yX8_begin, Cond.code yX8_begin cX8_begin 2 (some .int), Cond.classLink RX8 59 "java/lang/IllegalArgumentException", Cond.initialized "java/lang/IllegalArgumentException", Cond.fieldLink RX8 66 "PrimePlane$Row" "size" "I", Cond.fieldLink RX8 70 "PrimePlane$ClaimRow" "size" "I", Cond.methodLink RX8 55 yX3_isOffered, Cond.static yX3_isOffered, Cond.code yX3_isOffered cX3_isOffered 1 (some .boolean), Cond.methodLink RL 97 yL_build, Cond.static yL_build, Cond.code yL_build cL_build 15 (some .int), Cond.classLink RL 28 RJ0, Cond.methodLink RL 49 yX8_point, Cond.instanceMethod yX8_point, Cond.selects RX8 yX8_point yX8_point, Cond.code yX8_point cX8_point 6 (some .int), Cond.classLink RX8 95 "java/lang/IndexOutOfBoundsException", Cond.initialized "java/lang/IndexOutOfBoundsException"]
def wsL_law0_r7 : List Cond := [Cond.classLink RX8 116 "java/lang/IllegalStateException", Cond.initialized "java/lang/IllegalStateException", Cond.fieldLink RX8 137 "PrimePlane$Figure" "rank" "I", Cond.methodLink RX8 100 yX6_has, Cond.instanceMethod yX6_has, Cond.selects RX6 yX6_has yX6_has, Cond.code yX6_has cX6_has 2 (some .boolean), Cond.fieldLink RX6 24 "PrimePlane$Row" "size" "I", Cond.methodLink RX8 103 yX6_at, Cond.instanceMethod yX6_at, Cond.selects RX6 yX6_at yX6_at, Cond.code yX6_at cX6_at 3 (some (.object "PrimePlane$Figure")), Cond.methodLink RX8 107 yX4_sort, Cond.instanceMethod yX4_sort, Cond.selects RX4 yX4_sort yX4_sort, Cond.code yX4_sort cX4_sort 1 (some .int), Cond.fieldLink RX4 24 "PrimePlane$Figure" "way" "I", Cond.methodLink RX8 71 yX3_has, Cond.instanceMethod yX3_has, Cond.selects RX3 yX3_has yX3_has, Cond.code yX3_has cX3_has 2 (some .boolean), Cond.methodLink RX8 121 yX6_next, Cond.instanceMethod yX6_next, Cond.selects RX6 yX6_next yX6_next]
def wsL_law0_r8 : List Cond := [Cond.code yX6_next cX6_next 1 (some (.object "PrimePlane$Figure")), Cond.methodLink RX6 28 yX6_at, Cond.methodLink RX8 125 yX4_become, Cond.instanceMethod yX4_become, Cond.selects RX4 yX4_become yX4_become, Cond.code yX4_become cX4_become 5 none, Cond.methodLink RX8 129 yX4_tell, Cond.instanceMethod yX4_tell, Cond.selects RX4 yX4_tell yX4_tell, Cond.code yX4_tell cX4_tell 3 none, Cond.fieldLink RX4 27 "PrimePlane$Figure" "toldX" "I", Cond.fieldLink RX4 30 "PrimePlane$Figure" "toldY" "I", Cond.methodLink RX8 133 yX8_remake, Cond.instanceMethod yX8_remake, Cond.selects RX8 yX8_remake yX8_remake, Cond.code yX8_remake cX8_remake 6 none, Cond.fieldLink RX8 287 "PrimePlane$Figure" "a" "I", Cond.fieldLink RX8 290 "PrimePlane$Figure" "b" "I", Cond.fieldLink RX8 293 "PrimePlane$Figure" "c" "I", Cond.fieldLink RX8 188 "PrimePlane$Figure" "lacking" "Z", Cond.methodLink RX8 296 yX2_draw, Cond.instanceMethod yX2_draw, Cond.selects RX2 yX2_draw yX2_draw, Cond.code yX2_draw cX2_draw 5 (some .boolean)]
def wsL_law0_r9 : List Cond := [Cond.fieldLink RX2 27 "PrimePlane$Figure" "way" "I", Cond.fieldLink RX2 31 "PrimePlane$Figure" "toldX" "I", Cond.fieldLink RX2 34 "PrimePlane$Figure" "toldY" "I", Cond.fieldLink RX2 64 "PrimePlane$Figure" "x" "I", Cond.fieldLink RX2 67 "PrimePlane$Figure" "y" "I", Cond.methodLink RX2 37 yX2_putPoint, Cond.instanceMethod yX2_putPoint, Cond.selects RX2 yX2_putPoint yX2_putPoint, Cond.code yX2_putPoint cX2_putPoint 4 (some .boolean), Cond.methodLink RX2 89 yX3_rest, Cond.methodLink RX2 93 yX4_put, Cond.instanceMethod yX4_put, Cond.selects RX4 yX4_put yX4_put, Cond.code yX4_put cX4_put 4 none, Cond.fieldLink RX4 33 "PrimePlane$Figure" "x" "I", Cond.fieldLink RX4 36 "PrimePlane$Figure" "y" "I", Cond.fieldLink RX4 39 "PrimePlane$Figure" "z" "I", Cond.methodLink RX2 41 yX2_pointOnLine, Cond.instanceMethod yX2_pointOnLine, Cond.selects RX2 yX2_pointOnLine yX2_pointOnLine, Cond.code yX2_pointOnLine cX2_pointOnLine 4 (some .boolean), Cond.fieldLink RX2 100 "PrimePlane$Figure" "z" "I", Cond.methodLink RX2 103 yX3_ratio, Cond.instanceMethod yX3_ratio]
def wsL_law0_r10 : List Cond := [Cond.selects RX3 yX3_ratio yX3_ratio, Cond.code yX3_ratio cX3_ratio 3 (some .int), Cond.methodLink RX3 36 yX3_inverseOf, Cond.instanceMethod yX3_inverseOf, Cond.selects RX3 yX3_inverseOf yX3_inverseOf, Cond.code yX3_inverseOf cX3_inverseOf 2 (some .int), Cond.methodLink RX2 45 yX2_intersection, Cond.instanceMethod yX2_intersection, Cond.selects RX2 yX2_intersection yX2_intersection, Cond.code yX2_intersection cX2_intersection 5 (some .boolean), Cond.methodLink RX2 49 yX2_lineAndCircle, Cond.instanceMethod yX2_lineAndCircle, Cond.selects RX2 yX2_lineAndCircle yX2_lineAndCircle, Cond.code yX2_lineAndCircle cX2_lineAndCircle 15 (some .boolean), Cond.methodLink RX2 107 yX2_power, Cond.instanceMethod yX2_power, Cond.selects RX2 yX2_power yX2_power, Cond.code yX2_power cX2_power 3 (some .int), Cond.methodLink RX2 110 yX3_rootOf, Cond.instanceMethod yX3_rootOf, Cond.selects RX3 yX3_rootOf yX3_rootOf, Cond.code yX3_rootOf cX3_rootOf 3 (some .int), Cond.methodLink RX2 52 yX2_equalPowers, Cond.instanceMethod yX2_equalPowers]
def wsL_law0_r11 : List Cond := [Cond.selects RX2 yX2_equalPowers yX2_equalPowers, Cond.code yX2_equalPowers cX2_equalPowers 5 (some .boolean), Cond.methodLink RX2 113 yX2_putLine, Cond.instanceMethod yX2_putLine, Cond.selects RX2 yX2_putLine yX2_putLine, Cond.code yX2_putLine cX2_putLine 7 (some .boolean), Cond.methodLink RX2 97 yX3_inverseOf, Cond.methodLink RX2 55 yX2_middle, Cond.instanceMethod yX2_middle, Cond.selects RX2 yX2_middle yX2_middle, Cond.code yX2_middle cX2_middle 4 (some .boolean), Cond.methodLink RX2 58 yX2_mirror, Cond.instanceMethod yX2_mirror, Cond.selects RX2 yX2_mirror yX2_mirror, Cond.code yX2_mirror cX2_mirror 5 (some .boolean), Cond.methodLink RX2 61 yX2_lineThrough, Cond.instanceMethod yX2_lineThrough, Cond.selects RX2 yX2_lineThrough yX2_lineThrough, Cond.code yX2_lineThrough cX2_lineThrough 4 (some .boolean), Cond.methodLink RX2 70 yX2_lineAlong, Cond.instanceMethod yX2_lineAlong, Cond.selects RX2 yX2_lineAlong yX2_lineAlong, Cond.code yX2_lineAlong cX2_lineAlong 5 (some .boolean), Cond.methodLink RX2 74 yX2_lineBetween]
def wsL_law0_r12 : List Cond := [Cond.instanceMethod yX2_lineBetween, Cond.selects RX2 yX2_lineBetween yX2_lineBetween, Cond.code yX2_lineBetween cX2_lineBetween 5 (some .boolean), Cond.methodLink RX2 77 yX2_squareOf, Cond.instanceMethod yX2_squareOf, Cond.selects RX2 yX2_squareOf yX2_squareOf, Cond.code yX2_squareOf cX2_squareOf 5 (some .int), Cond.methodLink RX2 81 yX2_putCircle, Cond.instanceMethod yX2_putCircle, Cond.selects RX2 yX2_putCircle yX2_putCircle, Cond.code yX2_putCircle cX2_putCircle 5 (some .boolean), Cond.methodLink RX2 85 yX2_circleThrough, Cond.instanceMethod yX2_circleThrough, Cond.selects RX2 yX2_circleThrough yX2_circleThrough, Cond.code yX2_circleThrough cX2_circleThrough 14 (some .boolean), Cond.methodLink RL 15 yX8_object, Cond.instanceMethod yX8_object, Cond.selects RX8 yX8_object yX8_object, Cond.code yX8_object cX8_object 3 (some .int), Cond.methodLink RX8 183 yX4_feature, Cond.instanceMethod yX4_feature, Cond.selects RX4 yX4_feature yX4_feature, Cond.code yX4_feature cX4_feature 2 (some .int), Cond.fieldLink RX4 46 "PrimePlane$Figure" "lacking" "Z"]
def wsL_law0_r13 : List Cond := [Cond.methodLink RX4 42 yX4_sort, Cond.methodLink RL 53 yL_pick, Cond.static yL_pick, Cond.code yL_pick cL_pick 7 (some .int), Cond.methodLink RL 57 yJ0_length_8abf5, Cond.instanceMethod yJ0_length_8abf5, Cond.selects RJ0 yJ0_length_8abf5 yJ0_length_8abf5, Cond.initialized RJ0, Cond.code yJ0_length_8abf5 cJ0_length_8abf5 1 (some .int), Cond.fieldLink RJ0 9 "java/lang/String" "value" "[B", Cond.methodLink RJ0 335 yJ0_coder_7d493, Cond.instanceMethod yJ0_coder_7d493, Cond.selects RJ0 yJ0_coder_7d493 yJ0_coder_7d493, Cond.code yJ0_coder_7d493 cJ0_coder_7d493 1 (some .byte), Cond.fieldLink RJ0 38 "java/lang/String" "COMPACT_STRINGS" "Z", Cond.fieldLink RJ0 15 "java/lang/String" "coder" "B", Cond.methodLink RL 61 yJ0_charAt_5068e, Cond.instanceMethod yJ0_charAt_5068e, Cond.selects RJ0 yJ0_charAt_5068e yJ0_charAt_5068e, Cond.code yJ0_charAt_5068e cJ0_charAt_5068e 2 (some .char), Cond.methodLink RJ0 492 yJ0_isLatin1_aae02, Cond.instanceMethod yJ0_isLatin1_aae02, Cond.selects RJ0 yJ0_isLatin1_aae02 yJ0_isLatin1_aae02, Cond.code yJ0_isLatin1_aae02 cJ0_isLatin1_aae02 1 (some .boolean)]
def wsL_law0_r14 : List Cond := [Cond.methodLink RJ0 495 yJ1_charAt_3b067, Cond.static yJ1_charAt_3b067, Cond.initialized RJ1, Cond.code yJ1_charAt_3b067 cJ1_charAt_3b067 2 (some .char), Cond.methodLink RJ1 9 yJ0_checkIndex_df160, Cond.static yJ0_checkIndex_df160, Cond.code yJ0_checkIndex_df160 cJ0_checkIndex_df160 2 none, Cond.fieldLink RJ0 1053 "jdk/internal/util/Preconditions" "SIOOBE_FORMATTER" "Ljava/util/function/BiFunction;", Cond.methodLink RJ0 1059 yJ3_checkIndex_8e157, Cond.static yJ3_checkIndex_8e157, Cond.initialized RJ3, Cond.code yJ3_checkIndex_8e157 cJ3_checkIndex_8e157 3 (some .int), Cond.methodLink RJ0 498 yJ2_charAt_3b067, Cond.static yJ2_charAt_3b067, Cond.initialized RJ2, Cond.code yJ2_charAt_3b067 cJ2_charAt_3b067 2 (some .char), Cond.methodLink RJ2 67 yJ2_checkIndex_2214a, Cond.static yJ2_checkIndex_2214a, Cond.code yJ2_checkIndex_2214a cJ2_checkIndex_2214a 2 none, Cond.methodLink RJ2 48 yJ2_length_9d52b, Cond.static yJ2_length_9d52b, Cond.code yJ2_length_9d52b cJ2_length_9d52b 1 (some .int), Cond.methodLink RJ2 414 yJ0_checkIndex_df160, Cond.methodLink RJ2 71 yJ2_getChar_3b067]
def wsL_law0_r15 : List Cond := [Cond.static yJ2_getChar_3b067, Cond.code yJ2_getChar_3b067 cJ2_getChar_3b067 2 (some .char), Cond.fieldLink RJ2 44 "java/lang/StringUTF16" "$assertionsDisabled" "Z", Cond.fieldLink RJ2 59 "java/lang/StringUTF16" "HI_BYTE_SHIFT" "I", Cond.fieldLink RJ2 63 "java/lang/StringUTF16" "LO_BYTE_SHIFT" "I", Cond.methodLink RL 65 yX8_make, Cond.instanceMethod yX8_make, Cond.selects RX8 yX8_make yX8_make, Cond.code yX8_make cX8_make 9 (some .int), Cond.fieldLink RX8 145 "PrimePlane" "PARENTS" "[I", Cond.methodLink RX8 140 yX8_isWayToMake, Cond.static yX8_isWayToMake, Cond.code yX8_isWayToMake cX8_isWayToMake 1 (some .boolean), Cond.methodLink RX8 149 yX8_entry, Cond.static yX8_entry, Cond.code yX8_entry cX8_entry 2 (some .int), Cond.methodLink RX8 153 yX8_isThere, Cond.instanceMethod yX8_isThere, Cond.selects RX8 yX8_isThere yX8_isThere, Cond.code yX8_isThere cX8_isThere 3 (some .boolean), Cond.methodLink RX8 159 yX8_fits, Cond.instanceMethod yX8_fits, Cond.selects RX8 yX8_fits yX8_fits, Cond.code yX8_fits cX8_fits 3 (some .boolean)]
def wsL_law0_r16 : List Cond := [Cond.methodLink RL 69 yX8_places, Cond.instanceMethod yX8_places, Cond.selects RX8 yX8_places yX8_places, Cond.code yX8_places cX8_places 3 (some .int), Cond.fieldLink RX8 85 "PrimePlane$Field" "p" "I", Cond.methodLink RL 9 yX8_number, Cond.instanceMethod yX8_number, Cond.selects RX8 yX8_number yX8_number, Cond.code yX8_number cX8_number 4 (some .int), Cond.fieldLink RX8 194 "PrimePlane$Figure" "x" "I", Cond.fieldLink RX8 197 "PrimePlane$Figure" "y" "I", Cond.fieldLink RX8 200 "PrimePlane$Figure" "z" "I", Cond.methodLink RL 24 yL_has, Cond.static yL_has, Cond.code yL_has cL_has 9 (some .boolean), Cond.methodLink RL 18 yL_square, Cond.static yL_square, Cond.code yL_square cL_square 5 (some .int), Cond.methodLink RL 101 yX8_count, Cond.instanceMethod yX8_count, Cond.selects RX8 yX8_count yX8_count, Cond.code yX8_count cX8_count 2 (some .int), Cond.methodLink RX8 88 yX6_freePoints, Cond.instanceMethod yX6_freePoints]
def wsL_law0_r17 : List Cond := [Cond.selects RX6 yX6_freePoints yX6_freePoints, Cond.code yX6_freePoints cX6_freePoints 3 (some .int), Cond.fieldLink RX6 32 "PrimePlane$Figure" "way" "I", Cond.methodLink RX8 92 yX6_lackingOnes, Cond.instanceMethod yX6_lackingOnes, Cond.selects RX6 yX6_lackingOnes yX6_lackingOnes, Cond.code yX6_lackingOnes cX6_lackingOnes 3 (some .int), Cond.fieldLink RX6 35 "PrimePlane$Figure" "lacking" "Z", Cond.methodLink RL 104 yX8_digest, Cond.instanceMethod yX8_digest, Cond.selects RX8 yX8_digest yX8_digest, Cond.code yX8_digest cX8_digest 4 (some .long), Cond.constantLong RX8 279 (421), Cond.constantLong RX8 281 (31), Cond.methodLink RX8 283 yX4_addTo, Cond.instanceMethod yX4_addTo, Cond.selects RX4 yX4_addTo yX4_addTo, Cond.code yX4_addTo cX4_addTo 6 (some .long), Cond.constantLong RX4 50 (31), Cond.methodLink RX4 52 yX4_feature, Cond.methodLink RX8 233 yX1_at, Cond.instanceMethod yX1_at, Cond.selects RX1 yX1_at yX1_at, Cond.code yX1_at cX1_at 3 (some (.object "PrimePlane$Claim"))]
def wsL_law0_r18 : List Cond := [Cond.fieldLink RX1 22 "PrimePlane$ClaimRow" "size" "I", Cond.methodLink RX8 236 yX8_verdict, Cond.instanceMethod yX8_verdict, Cond.selects RX8 yX8_verdict yX8_verdict, Cond.code yX8_verdict cX8_verdict 6 (some .int), Cond.fieldLink RX8 306 "PrimePlane$Claim" "a" "I", Cond.fieldLink RX8 307 "PrimePlane$Claim" "b" "I", Cond.fieldLink RX8 308 "PrimePlane$Claim" "c" "I", Cond.fieldLink RX8 309 "PrimePlane$Claim" "d" "I", Cond.fieldLink RX8 312 "PrimePlane$Claim" "sort" "I", Cond.methodLink RX8 314 yX5_isTrue, Cond.instanceMethod yX5_isTrue, Cond.selects RX5 yX5_isTrue yX5_isTrue, Cond.code yX5_isTrue cX5_isTrue 6 (some .boolean), Cond.fieldLink RX5 50 "PrimePlane$Figure" "x" "I", Cond.fieldLink RX5 54 "PrimePlane$Figure" "y" "I", Cond.methodLink RX5 35 yX2_power, Cond.methodLink RX5 39 yX5_isOnCircle, Cond.instanceMethod yX5_isOnCircle, Cond.selects RX5 yX5_isOnCircle yX5_isOnCircle, Cond.code yX5_isOnCircle cX5_isOnCircle 3 (some .boolean), Cond.fieldLink RX5 73 "PrimePlane$Figure" "z" "I", Cond.methodLink RX5 63 yX2_squareOf, Cond.methodLink RX5 43 yX5_areInLine]
def wsL_law0_r19 : List Cond := [Cond.instanceMethod yX5_areInLine, Cond.selects RX5 yX5_areInLine yX5_areInLine, Cond.code yX5_areInLine cX5_areInLine 4 (some .boolean), Cond.methodLink RX5 57 yX3_rest, Cond.methodLink RX5 47 yX5_areParallel, Cond.static yX5_areParallel, Cond.code yX5_areParallel cX5_areParallel 2 (some .boolean), Cond.methodLink RX5 66 yX4_isLike, Cond.instanceMethod yX4_isLike, Cond.selects RX4 yX4_isLike yX4_isLike, Cond.code yX4_isLike cX4_isLike 2 (some .boolean), Cond.methodLink RX5 70 yX5_shareAPlace, Cond.instanceMethod yX5_shareAPlace, Cond.selects RX5 yX5_shareAPlace yX5_shareAPlace, Cond.code yX5_shareAPlace cX5_shareAPlace 4 (some .boolean), Cond.methodLink RX5 76 yX2_intersection, Cond.methodLink RL 108 yX8_locus, Cond.instanceMethod yX8_locus, Cond.selects RX8 yX8_locus yX8_locus, Cond.code yX8_locus cX8_locus 8 (some .int), Cond.fieldLink RX8 166 "PrimePlane$Figure" "way" "I", Cond.fieldLink RX8 248 "PrimePlane$Figure" "toldX" "I", Cond.fieldLink RX8 266 "PrimePlane$Trail" "seen" "LPrimePlane$Row;", Cond.fieldLink RX8 273 "PrimePlane$Trail" "missed" "I"]
def wsL_law0_r20 : List Cond := [Cond.methodLink RX8 171 yX6_markFollowers, Cond.instanceMethod yX6_markFollowers, Cond.selects RX6 yX6_markFollowers yX6_markFollowers, Cond.code yX6_markFollowers cX6_markFollowers 4 none, Cond.fieldLink RX6 39 "PrimePlane$Figure" "rank" "I", Cond.fieldLink RX6 42 "PrimePlane$Figure" "a" "I", Cond.fieldLink RX6 45 "PrimePlane$Figure" "follows" "Z", Cond.fieldLink RX6 48 "PrimePlane$Figure" "b" "I", Cond.fieldLink RX6 51 "PrimePlane$Figure" "c" "I", Cond.methodLink RX8 258 yX6_wantFor, Cond.instanceMethod yX6_wantFor, Cond.selects RX6 yX6_wantFor yX6_wantFor, Cond.code yX6_wantFor cX6_wantFor 2 none, Cond.fieldLink RX6 58 "PrimePlane$Figure" "wanted" "Z", Cond.methodLink RX6 54 yX6_setWanted, Cond.instanceMethod yX6_setWanted, Cond.selects RX6 yX6_setWanted yX6_setWanted, Cond.code yX6_setWanted cX6_setWanted 3 none, Cond.methodLink RX6 61 yX6_wantParents, Cond.instanceMethod yX6_wantParents, Cond.selects RX6 yX6_wantParents yX6_wantParents, Cond.code yX6_wantParents cX6_wantParents 3 none, Cond.methodLink RX8 260 yX7_clear, Cond.instanceMethod yX7_clear]
def wsL_law0_r21 : List Cond := [Cond.selects RX7 yX7_clear yX7_clear, Cond.code yX7_clear cX7_clear 1 none, Cond.fieldLink RX7 16 "PrimePlane$Row" "size" "I", Cond.fieldLink RX7 20 "PrimePlane$Trail" "missed" "I", Cond.methodLink RX8 177 yX8_shift, Cond.instanceMethod yX8_shift, Cond.selects RX8 yX8_shift yX8_shift, Cond.code yX8_shift cX8_shift 6 none, Cond.fieldLink RX8 300 "PrimePlane$Figure" "follows" "Z", Cond.fieldLink RX8 303 "PrimePlane$Figure" "wanted" "Z", Cond.methodLink RX8 263 yX7_look, Cond.instanceMethod yX7_look, Cond.selects RX7 yX7_look yX7_look, Cond.code yX7_look cX7_look 2 none, Cond.fieldLink RX7 23 "PrimePlane$Figure" "lacking" "Z", Cond.fieldLink RX7 37 "PrimePlane$Figure" "x" "I", Cond.fieldLink RX7 40 "PrimePlane$Figure" "y" "I", Cond.methodLink RX7 29 yX7_knows, Cond.instanceMethod yX7_knows, Cond.selects RX7 yX7_knows yX7_knows, Cond.code yX7_knows cX7_knows 3 (some .boolean), Cond.methodLink RX7 47 yX6_at, Cond.methodLink RX7 51 yX4_isLike, Cond.methodLink RX7 33 yX6_next]
def wsL_law0_r22 : List Cond := [Cond.methodLink RX7 43 yX4_put, Cond.methodLink RX8 269 yX5_shapeOf, Cond.instanceMethod yX5_shapeOf, Cond.selects RX5 yX5_shapeOf yX5_shapeOf, Cond.code yX5_shapeOf cX5_shapeOf 2 (some .int), Cond.fieldLink RX5 79 "PrimePlane$Row" "size" "I", Cond.methodLink RX5 84 yX5_allAreInLine, Cond.instanceMethod yX5_allAreInLine, Cond.selects RX5 yX5_allAreInLine yX5_allAreInLine, Cond.code yX5_allAreInLine cX5_allAreInLine 3 (some .boolean), Cond.methodLink RX5 91 yX6_at, Cond.methodLink RX5 88 yX5_allAreOnCircle, Cond.instanceMethod yX5_allAreOnCircle, Cond.selects RX5 yX5_allAreOnCircle yX5_allAreOnCircle, Cond.code yX5_allAreOnCircle cX5_allAreOnCircle 3 (some .boolean), Cond.methodLink RX5 95 yX2_circleThrough, Cond.methodLink RX8 276 yX7_sum, Cond.instanceMethod yX7_sum, Cond.selects RX7 yX7_sum yX7_sum, Cond.code yX7_sum cX7_sum 5 (some .int), Cond.methodLink RL 111 yX8_claim, Cond.instanceMethod yX8_claim, Cond.selects RX8 yX8_claim yX8_claim, Cond.code yX8_claim cX8_claim 10 (some .int)]
def wsL_law0_r23 : List Cond := [Cond.fieldLink RX8 211 "PrimePlane" "SUBJECTS" "[I", Cond.methodLink RX8 222 yX1_next, Cond.instanceMethod yX1_next, Cond.selects RX1 yX1_next yX1_next, Cond.code yX1_next cX1_next 1 (some (.object "PrimePlane$Claim")), Cond.methodLink RX1 26 yX1_at, Cond.methodLink RX8 225 yX0_become, Cond.instanceMethod yX0_become, Cond.selects RX0 yX0_become yX0_become, Cond.code yX0_become cX0_become 6 none, Cond.fieldLink RX0 24 "PrimePlane$Claim" "sort" "I", Cond.methodLink RL 114 yX8_everywhere, Cond.instanceMethod yX8_everywhere, Cond.selects RX8 yX8_everywhere yX8_everywhere, Cond.code yX8_everywhere cX8_everywhere 15 (some .int), Cond.fieldLink RX8 251 "PrimePlane$Figure" "toldY" "I", Cond.methodLink RX8 230 yX1_has, Cond.instanceMethod yX1_has, Cond.selects RX1 yX1_has yX1_has, Cond.code yX1_has cX1_has 2 (some .boolean), Cond.methodLink RX8 244 yX6_wantFor_, Cond.instanceMethod yX6_wantFor_, Cond.selects RX6 yX6_wantFor_ yX6_wantFor_, Cond.code yX6_wantFor_ cX6_wantFor_ 2 none]
def wsL_law0_r24 : List Cond := [Cond.fieldLink RX6 64 "PrimePlane$Claim" "a" "I", Cond.fieldLink RX6 67 "PrimePlane$Claim" "b" "I", Cond.fieldLink RX6 68 "PrimePlane$Claim" "c" "I", Cond.fieldLink RX6 69 "PrimePlane$Claim" "d" "I", Cond.methodLink RL 117 yX8_move, Cond.instanceMethod yX8_move, Cond.selects RX8 yX8_move yX8_move, Cond.code yX8_move cX8_move 5 (some .int), Cond.methodLink RX8 174 yX6_wantAll, Cond.instanceMethod yX6_wantAll, Cond.selects RX6 yX6_wantAll yX6_wantAll, Cond.code yX6_wantAll cX6_wantAll 1 none, Cond.methodLink RL 120 yX8_holds, Cond.instanceMethod yX8_holds, Cond.selects RX8 yX8_holds yX8_holds, Cond.code yX8_holds cX8_holds 2 (some .int), Cond.methodLink RL 123 yX8_truth, Cond.instanceMethod yX8_truth, Cond.selects RX8 yX8_truth yX8_truth, Cond.code yX8_truth cX8_truth 5 (some .double)]
def wsL_law0 : List Cond := (wsL_law0_r1 ++ (wsL_law0_r2 ++ (wsL_law0_r3 ++ (wsL_law0_r4 ++ (wsL_law0_r5 ++ (wsL_law0_r6 ++ (wsL_law0_r7 ++ (wsL_law0_r8 ++ (wsL_law0_r9 ++ (wsL_law0_r10 ++ (wsL_law0_r11 ++ (wsL_law0_r12 ++ (wsL_law0_r13 ++ (wsL_law0_r14 ++ (wsL_law0_r15 ++ (wsL_law0_r16 ++ (wsL_law0_r17 ++ (wsL_law0_r18 ++ (wsL_law0_r19 ++ (wsL_law0_r20 ++ (wsL_law0_r21 ++ (wsL_law0_r22 ++ (wsL_law0_r23 ++ wsL_law0_r24))))))))))))))))))))))) ++ wsX80 ++ wsX50 ++ wsX20 ++ wsX60 ++ wsX10 ++ wsX70 ++ wsX40 ++ wsX30 ++ wsX00 ++ ([] : List Cond)
def wsL_law : List Cond := wsL_law0 ++ (vx_atS RX8 63 "java/lang/IllegalArgumentException" ["java/lang/RuntimeException", "java/lang/Exception"]).filter goodWord ++ (vx_atS RX8 99 "java/lang/IndexOutOfBoundsException" ["java/lang/RuntimeException", "java/lang/Exception"]).filter goodWord ++ (vx_atS RX8 120 "java/lang/IllegalStateException" ["java/lang/RuntimeException", "java/lang/Exception"]).filter goodWord
set_option maxRecDepth 20000 in
theorem wsL_law0_r1_in9 : ∀ w ∈ wsL_law0_r1, w ∈ lw_tbl := fun w h => (goodIn_r wsL_law0_r1 [46, 47, 26, 827, 83, 48, 49, 50, 51, 52, 53, 54, 55, 27, 288, 173, 289, 163, 290, 186, 187, 31, 291, 208] rfl (by decide +kernel) w h).1
set_option maxRecDepth 20000 in
theorem wsL_law0_r2_in9 : ∀ w ∈ wsL_law0_r2, w ∈ lw_tbl := fun w h => (goodIn_r wsL_law0_r2 [209, 32, 292, 257, 258, 34, 293, 57, 58, 59, 60, 61, 28, 172, 162, 174, 170, 85, 30, 175, 176, 63, 64, 65] rfl (by decide +kernel) w h).1
set_option maxRecDepth 20000 in
theorem wsL_law0_r3_in9 : ∀ w ∈ wsL_law0_r3, w ∈ lw_tbl := fun w h => (goodIn_r wsL_law0_r3 [66, 67, 29, 161, 84, 164, 69, 70, 71, 72, 74, 75, 86, 87, 88, 89, 97, 100, 103, 90, 171, 188, 189, 190] rfl (by decide +kernel) w h).1
set_option maxRecDepth 20000 in
theorem wsL_law0_r4_in9 : ∀ w ∈ wsL_law0_r4, w ∈ lw_tbl := fun w h => (goodIn_r wsL_law0_r4 [191, 192, 195, 196, 194, 210, 211, 212, 213, 214, 246, 216, 33, 247, 218, 219, 220, 223, 226, 229, 232, 260, 261, 262] rfl (by decide +kernel) w h).1
set_option maxRecDepth 20000 in
theorem wsL_law0_r5_in9 : ∀ w ∈ wsL_law0_r5, w ∈ lw_tbl := fun w h => (goodIn_r wsL_law0_r5 [263, 265, 264, 274, 275, 276, 277, 278, 279, 280, 281, 282, 283, 35, 284, 285, 286, 287, 731, 732, 25, 733, 734, 727] rfl (by decide +kernel) w h).1
set_option maxRecDepth 20000 in
theorem wsL_law0_r6_in9 : ∀ w ∈ wsL_law0_r6, w ∈ lw_tbl := fun w h => (goodIn_r wsL_law0_r6 [728, 729, 730, 307, 308, 309, 310, 314, 39, 199, 249, 311, 312, 313, 741, 742, 743, 744, 752, 753, 754, 755, 398, 40] rfl (by decide +kernel) w h).1
set_option maxRecDepth 20000 in
theorem wsL_law0_r7_in9 : ∀ w ∈ wsL_law0_r7, w ∈ lw_tbl := fun w h => (goodIn_r wsL_law0_r7 [429, 41, 91, 418, 419, 420, 421, 198, 423, 391, 392, 393, 574, 561, 562, 563, 94, 424, 425, 426, 427, 759, 689, 690] rfl (by decide +kernel) w h).1
set_option maxRecDepth 20000 in
theorem wsL_law0_r8_in9 : ∀ w ∈ wsL_law0_r8, w ∈ lw_tbl := fun w h => (goodIn_r wsL_law0_r8 [691, 390, 760, 761, 762, 763, 461, 462, 463, 464, 107, 110, 465, 467, 3, 468, 99, 102, 105, 115, 469, 470, 471, 472] rfl (by decide +kernel) w h).1
set_option maxRecDepth 20000 in
theorem wsL_law0_r9_in9 : ∀ w ∈ wsL_law0_r9, w ∈ lw_tbl := fun w h => (goodIn_r wsL_law0_r9 [93, 106, 109, 117, 122, 473, 475, 4, 476, 477, 478, 479, 480, 481, 119, 124, 127, 482, 484, 5, 485, 128, 486, 487] rfl (by decide +kernel) w h).1
set_option maxRecDepth 20000 in
theorem wsL_law0_r10_in9 : ∀ w ∈ wsL_law0_r10, w ∈ lw_tbl := fun w h => (goodIn_r wsL_law0_r10 [488, 489, 490, 491, 492, 493, 494, 495, 496, 497, 498, 500, 6, 501, 502, 503, 504, 505, 506, 507, 508, 509, 510, 512] rfl (by decide +kernel) w h).1
set_option maxRecDepth 20000 in
theorem wsL_law0_r11_in9 : ∀ w ∈ wsL_law0_r11, w ∈ lw_tbl := fun w h => (goodIn_r wsL_law0_r11 [7, 513, 514, 516, 8, 517, 518, 519, 521, 9, 522, 523, 525, 10, 526, 527, 529, 11, 530, 531, 533, 12, 534, 535] rfl (by decide +kernel) w h).1
set_option maxRecDepth 20000 in
theorem wsL_law0_r12_in9 : ∀ w ∈ wsL_law0_r12, w ∈ lw_tbl := fun w h => (goodIn_r wsL_law0_r12 [537, 13, 538, 539, 540, 541, 542, 543, 545, 14, 546, 547, 548, 549, 550, 551, 552, 553, 554, 556, 557, 558, 559, 114] rfl (by decide +kernel) w h).1
set_option maxRecDepth 20000 in
theorem wsL_law0_r13_in9 : ∀ w ∈ wsL_law0_r13, w ∈ lw_tbl := fun w h => (goodIn_r wsL_law0_r13 [560, 764, 765, 766, 767, 768, 769, 42, 770, 830, 771, 772, 773, 774, 775, 831, 777, 778, 779, 780, 781, 782, 783, 784] rfl (by decide +kernel) w h).1
set_option maxRecDepth 20000 in
theorem wsL_law0_r14_in9 : ∀ w ∈ wsL_law0_r14, w ∈ lw_tbl := fun w h => (goodIn_r wsL_law0_r14 [785, 786, 43, 787, 788, 789, 790, 791, 793, 794, 44, 795, 796, 797, 45, 798, 799, 800, 801, 802, 803, 804, 805, 806] rfl (by decide +kernel) w h).1
set_option maxRecDepth 20000 in
theorem wsL_law0_r15_in9 : ∀ w ∈ wsL_law0_r15, w ∈ lw_tbl := fun w h => (goodIn_r wsL_law0_r15 [807, 808, 809, 811, 813, 815, 816, 817, 818, 822, 819, 820, 821, 582, 583, 584, 585, 587, 15, 588, 590, 592, 16, 593] rfl (by decide +kernel) w h).1
set_option maxRecDepth 20000 in
theorem wsL_law0_r16_in9 : ∀ w ∈ wsL_law0_r16, w ∈ lw_tbl := fun w h => (goodIn_r wsL_law0_r16 [570, 571, 572, 573, 73, 564, 565, 566, 567, 120, 125, 129, 735, 736, 737, 738, 739, 740, 382, 383, 384, 385, 386, 387] rfl (by decide +kernel) w h).1
set_option maxRecDepth 20000 in
theorem wsL_law0_r17_in9 : ∀ w ∈ wsL_law0_r17, w ∈ lw_tbl := fun w h => (goodIn_r wsL_law0_r17 [388, 389, 95, 394, 395, 396, 397, 113, 715, 716, 717, 718, 719, 720, 721, 722, 723, 724, 725, 726, 618, 602, 603, 604] rfl (by decide +kernel) w h).1
set_option maxRecDepth 20000 in
theorem wsL_law0_r18_in9 : ∀ w ∈ wsL_law0_r18, w ∈ lw_tbl := fun w h => (goodIn_r wsL_law0_r18 [248, 619, 621, 17, 622, 225, 228, 231, 234, 222, 623, 624, 625, 626, 116, 121, 627, 628, 630, 18, 631, 126, 632, 633] rfl (by decide +kernel) w h).1
set_option maxRecDepth 20000 in
theorem wsL_law0_r19_in9 : ∀ w ∈ wsL_law0_r19, w ∈ lw_tbl := fun w h => (goodIn_r wsL_law0_r19 [635, 19, 636, 637, 638, 639, 640, 641, 642, 643, 644, 645, 647, 20, 648, 649, 664, 665, 666, 667, 96, 108, 266, 268] rfl (by decide +kernel) w h).1
set_option maxRecDepth 20000 in
theorem wsL_law0_r20_in9 : ∀ w ∈ wsL_law0_r20, w ∈ lw_tbl := fun w h => (goodIn_r wsL_law0_r20 [445, 446, 447, 448, 92, 98, 130, 101, 104, 670, 671, 672, 673, 132, 453, 455, 1, 456, 660, 662, 21, 663, 674, 675] rfl (by decide +kernel) w h).1
set_option maxRecDepth 20000 in
theorem wsL_law0_r21_in9 : ∀ w ∈ wsL_law0_r21, w ∈ lw_tbl := fun w h => (goodIn_r wsL_law0_r21 [676, 677, 197, 267, 457, 459, 2, 460, 131, 133, 678, 679, 680, 681, 112, 118, 123, 682, 684, 22, 685, 686, 687, 688] rfl (by decide +kernel) w h).1
set_option maxRecDepth 20000 in
theorem wsL_law0_r22_in9 : ∀ w ∈ wsL_law0_r22, w ∈ lw_tbl := fun w h => (goodIn_r wsL_law0_r22 [692, 693, 694, 695, 696, 200, 697, 699, 23, 700, 701, 702, 704, 24, 705, 706, 707, 708, 709, 710, 575, 576, 577, 578] rfl (by decide +kernel) w h).1
set_option maxRecDepth 20000 in
theorem wsL_law0_r23_in9 : ∀ w ∈ wsL_law0_r23, w ∈ lw_tbl := fun w h => (goodIn_r wsL_law0_r23 [580, 597, 598, 599, 600, 601, 605, 606, 607, 608, 221, 650, 651, 652, 653, 111, 613, 614, 615, 616, 656, 657, 658, 659] rfl (by decide +kernel) w h).1
set_option maxRecDepth 20000 in
theorem wsL_law0_r24_in9 : ∀ w ∈ wsL_law0_r24, w ∈ lw_tbl := fun w h => (goodIn_r wsL_law0_r24 [224, 227, 230, 233, 414, 415, 416, 417, 449, 450, 451, 452, 609, 610, 611, 612, 711, 712, 713, 714] rfl (by decide +kernel) w h).1
set_option maxRecDepth 20000 in
theorem wsX00_in9 : ∀ w ∈ wsX00, w ∈ lw_tbl := fun w h => (goodIn_r wsX00 [235, 237, 239, 241, 243] rfl (by decide +kernel) w h).1
set_option maxRecDepth 20000 in
theorem wsX10_in9 : ∀ w ∈ wsX10, w ∈ lw_tbl := fun w h => (goodIn_r wsX10 [250, 252, 254] rfl (by decide +kernel) w h).1
set_option maxRecDepth 20000 in
theorem wsX20_in9 : ∀ w ∈ wsX20, w ∈ lw_tbl := fun w h => (goodIn_r wsX20 [165, 167] rfl (by decide +kernel) w h).1
set_option maxRecDepth 20000 in
theorem wsX30_in9 : ∀ w ∈ wsX30, w ∈ lw_tbl := fun w h => (goodIn_r wsX30 [76, 78, 80] rfl (by decide +kernel) w h).1
set_option maxRecDepth 20000 in
theorem wsX40_in9 : ∀ w ∈ wsX40, w ∈ lw_tbl := fun w h => (goodIn_r wsX40 [134, 136, 138, 140, 142, 144, 146, 148, 150, 152, 154, 156, 158] rfl (by decide +kernel) w h).1
set_option maxRecDepth 20000 in
theorem wsX50_in9 : ∀ w ∈ wsX50, w ∈ lw_tbl := fun w h => (goodIn_r wsX50 [177, 179, 181, 183] rfl (by decide +kernel) w h).1
set_option maxRecDepth 20000 in
theorem wsX60_in9 : ∀ w ∈ wsX60, w ∈ lw_tbl := fun w h => (goodIn_r wsX60 [201, 203, 205] rfl (by decide +kernel) w h).1
set_option maxRecDepth 20000 in
theorem wsX70_in9 : ∀ w ∈ wsX70, w ∈ lw_tbl := fun w h => (goodIn_r wsX70 [269, 271] rfl (by decide +kernel) w h).1
set_option maxRecDepth 20000 in
theorem wsX80_in9 : ∀ w ∈ wsX80, w ∈ lw_tbl := fun w h => (goodIn_r wsX80 [294, 296, 298, 300, 302, 304] rfl (by decide +kernel) w h).1
theorem zmem_app {a b c : List Cond} (h1 : ∀ w ∈ a, w ∈ c) (h2 : ∀ w ∈ b, w ∈ c) : ∀ w ∈ a ++ b, w ∈ c := fun w h => (List.mem_append.mp h).elim (h1 w) (h2 w)
theorem wsL_law_in0 : ∀ w ∈ wsL_law0, w ∈ lw_tbl := zmem_app (zmem_app (zmem_app (zmem_app (zmem_app (zmem_app (zmem_app (zmem_app (zmem_app (zmem_app (zmem_app wsL_law0_r1_in9 (zmem_app wsL_law0_r2_in9 (zmem_app wsL_law0_r3_in9 (zmem_app wsL_law0_r4_in9 (zmem_app wsL_law0_r5_in9 (zmem_app wsL_law0_r6_in9 (zmem_app wsL_law0_r7_in9 (zmem_app wsL_law0_r8_in9 (zmem_app wsL_law0_r9_in9 (zmem_app wsL_law0_r10_in9 (zmem_app wsL_law0_r11_in9 (zmem_app wsL_law0_r12_in9 (zmem_app wsL_law0_r13_in9 (zmem_app wsL_law0_r14_in9 (zmem_app wsL_law0_r15_in9 (zmem_app wsL_law0_r16_in9 (zmem_app wsL_law0_r17_in9 (zmem_app wsL_law0_r18_in9 (zmem_app wsL_law0_r19_in9 (zmem_app wsL_law0_r20_in9 (zmem_app wsL_law0_r21_in9 (zmem_app wsL_law0_r22_in9 (zmem_app wsL_law0_r23_in9 wsL_law0_r24_in9))))))))))))))))))))))) wsX80_in9) wsX50_in9) wsX20_in9) wsX60_in9) wsX10_in9) wsX70_in9) wsX40_in9) wsX30_in9) wsX00_in9) (fun _ h => absurd h List.not_mem_nil)
theorem wsL_law_x0 : ∀ w ∈ (vx_atS RX8 63 "java/lang/IllegalArgumentException" ["java/lang/RuntimeException", "java/lang/Exception"]).filter goodWord, w ∈ lw_tbl := by decide +kernel
theorem wsL_law_x1 : ∀ w ∈ (vx_atS RX8 99 "java/lang/IndexOutOfBoundsException" ["java/lang/RuntimeException", "java/lang/Exception"]).filter goodWord, w ∈ lw_tbl := by decide +kernel
theorem wsL_law_x2 : ∀ w ∈ (vx_atS RX8 120 "java/lang/IllegalStateException" ["java/lang/RuntimeException", "java/lang/Exception"]).filter goodWord, w ∈ lw_tbl := by decide +kernel
theorem wsL_law_in : ∀ w ∈ wsL_law, w ∈ lw_tbl := fun w h => (List.mem_append.mp h).elim (fun h => (List.mem_append.mp h).elim (fun h => (List.mem_append.mp h).elim (fun h => wsL_law_in0 w h) (fun h => wsL_law_x0 w h)) (fun h => wsL_law_x1 w h)) (fun h => wsL_law_x2 w h)
theorem inlX0 : ∀ w ∈ wsX00, w ∈ wsL_law := fun _ h => List.mem_append_left _ (List.mem_append_left _ (List.mem_append_left _ (List.mem_append_left _ (List.mem_append_right _ h))))
theorem inX0 : ∀ w ∈ wsX00, w ∈ lw_tbl := fun w h => wsL_law_in w (inlX0 w h)
theorem inlX1 : ∀ w ∈ wsX10, w ∈ wsL_law := fun _ h => List.mem_append_left _ (List.mem_append_left _ (List.mem_append_left _ (List.mem_append_left _ (List.mem_append_left _ (List.mem_append_left _ (List.mem_append_left _ (List.mem_append_left _ (List.mem_append_right _ h))))))))
theorem inX1 : ∀ w ∈ wsX10, w ∈ lw_tbl := fun w h => wsL_law_in w (inlX1 w h)
theorem inlX2 : ∀ w ∈ wsX20, w ∈ wsL_law := fun _ h => List.mem_append_left _ (List.mem_append_left _ (List.mem_append_left _ (List.mem_append_left _ (List.mem_append_left _ (List.mem_append_left _ (List.mem_append_left _ (List.mem_append_left _ (List.mem_append_left _ (List.mem_append_left _ (List.mem_append_right _ h))))))))))
theorem inX2 : ∀ w ∈ wsX20, w ∈ lw_tbl := fun w h => wsL_law_in w (inlX2 w h)
theorem inlX3 : ∀ w ∈ wsX30, w ∈ wsL_law := fun _ h => List.mem_append_left _ (List.mem_append_left _ (List.mem_append_left _ (List.mem_append_left _ (List.mem_append_left _ (List.mem_append_right _ h)))))
theorem inX3 : ∀ w ∈ wsX30, w ∈ lw_tbl := fun w h => wsL_law_in w (inlX3 w h)
theorem inlX4 : ∀ w ∈ wsX40, w ∈ wsL_law := fun _ h => List.mem_append_left _ (List.mem_append_left _ (List.mem_append_left _ (List.mem_append_left _ (List.mem_append_left _ (List.mem_append_left _ (List.mem_append_right _ h))))))
theorem inX4 : ∀ w ∈ wsX40, w ∈ lw_tbl := fun w h => wsL_law_in w (inlX4 w h)
theorem inlX5 : ∀ w ∈ wsX50, w ∈ wsL_law := fun _ h => List.mem_append_left _ (List.mem_append_left _ (List.mem_append_left _ (List.mem_append_left _ (List.mem_append_left _ (List.mem_append_left _ (List.mem_append_left _ (List.mem_append_left _ (List.mem_append_left _ (List.mem_append_left _ (List.mem_append_left _ (List.mem_append_right _ h)))))))))))
theorem inX5 : ∀ w ∈ wsX50, w ∈ lw_tbl := fun w h => wsL_law_in w (inlX5 w h)
theorem inlX6 : ∀ w ∈ wsX60, w ∈ wsL_law := fun _ h => List.mem_append_left _ (List.mem_append_left _ (List.mem_append_left _ (List.mem_append_left _ (List.mem_append_left _ (List.mem_append_left _ (List.mem_append_left _ (List.mem_append_left _ (List.mem_append_left _ (List.mem_append_right _ h)))))))))
theorem inX6 : ∀ w ∈ wsX60, w ∈ lw_tbl := fun w h => wsL_law_in w (inlX6 w h)
theorem inlX7 : ∀ w ∈ wsX70, w ∈ wsL_law := fun _ h => List.mem_append_left _ (List.mem_append_left _ (List.mem_append_left _ (List.mem_append_left _ (List.mem_append_left _ (List.mem_append_left _ (List.mem_append_left _ (List.mem_append_right _ h)))))))
theorem inX7 : ∀ w ∈ wsX70, w ∈ lw_tbl := fun w h => wsL_law_in w (inlX7 w h)
theorem inlX8 : ∀ w ∈ wsX80, w ∈ wsL_law := fun _ h => List.mem_append_left _ (List.mem_append_left _ (List.mem_append_left _ (List.mem_append_left _ (List.mem_append_left _ (List.mem_append_left _ (List.mem_append_left _ (List.mem_append_left _ (List.mem_append_left _ (List.mem_append_left _ (List.mem_append_left _ (List.mem_append_left _ (List.mem_append_right _ h))))))))))))
theorem inX8 : ∀ w ∈ wsX80, w ∈ lw_tbl := fun w h => wsL_law_in w (inlX8 w h)
theorem inX9 : ∀ w ∈ wsX90, w ∈ lw_tbl := by decide +kernel
theorem inJ9 : ∀ w ∈ wsJ90, w ∈ lw_tbl := by decide +kernel
theorem inJ0 : ∀ w ∈ wsJ00, w ∈ lw_tbl := by decide +kernel
theorem inJ1 : ∀ w ∈ wsJ10, w ∈ lw_tbl := by decide +kernel
theorem inJ2 : ∀ w ∈ wsJ20, w ∈ lw_tbl := by decide +kernel
theorem inJ3 : ∀ w ∈ wsJ30, w ∈ lw_tbl := by decide +kernel
theorem dX0_init_0 : decode cX0_init 0 = .ok (.aload_n 0, 1) := by decide +kernel
theorem dX0_init_1 : decode cX0_init 1 = .ok (.invokespecial 3, 3) := by decide +kernel
theorem dX0_init_4 : decode cX0_init 4 = .ok (.aload_n 0, 1) := by decide +kernel
theorem dX0_init_5 : decode cX0_init 5 = .ok (.iconst (-1), 1) := by decide +kernel
theorem dX0_init_6 : decode cX0_init 6 = .ok (.putfield 9, 3) := by decide +kernel
theorem dX0_init_9 : decode cX0_init 9 = .ok (.aload_n 0, 1) := by decide +kernel
theorem dX0_init_10 : decode cX0_init 10 = .ok (.iconst (-1), 1) := by decide +kernel
theorem dX0_init_11 : decode cX0_init 11 = .ok (.putfield 15, 3) := by decide +kernel
theorem dX0_init_14 : decode cX0_init 14 = .ok (.aload_n 0, 1) := by decide +kernel
theorem dX0_init_15 : decode cX0_init 15 = .ok (.iconst (-1), 1) := by decide +kernel
theorem dX0_init_16 : decode cX0_init 16 = .ok (.putfield 18, 3) := by decide +kernel
theorem dX0_init_19 : decode cX0_init 19 = .ok (.aload_n 0, 1) := by decide +kernel
theorem dX0_init_20 : decode cX0_init 20 = .ok (.iconst (-1), 1) := by decide +kernel
theorem dX0_init_21 : decode cX0_init 21 = .ok (.putfield 21, 3) := by decide +kernel
theorem dX0_init_24 : decode cX0_init 24 = .ok (.return_, 1) := by decide +kernel
theorem dX0_become_0 : decode cX0_become 0 = .ok (.aload_n 0, 1) := by decide +kernel
theorem dX0_become_1 : decode cX0_become 1 = .ok (.iload_n 1, 1) := by decide +kernel
theorem dX0_become_2 : decode cX0_become 2 = .ok (.putfield 24, 3) := by decide +kernel
theorem dX0_become_5 : decode cX0_become 5 = .ok (.aload_n 0, 1) := by decide +kernel
theorem dX0_become_6 : decode cX0_become 6 = .ok (.iload_n 2, 1) := by decide +kernel
theorem dX0_become_7 : decode cX0_become 7 = .ok (.putfield 9, 3) := by decide +kernel
theorem dX0_become_10 : decode cX0_become 10 = .ok (.aload_n 0, 1) := by decide +kernel
theorem dX0_become_11 : decode cX0_become 11 = .ok (.iload_n 3, 1) := by decide +kernel
theorem dX0_become_12 : decode cX0_become 12 = .ok (.putfield 15, 3) := by decide +kernel
theorem dX0_become_15 : decode cX0_become 15 = .ok (.aload_n 0, 1) := by decide +kernel
theorem dX0_become_16 : decode cX0_become 16 = .ok (.iload 4, 2) := by decide +kernel
theorem dX0_become_18 : decode cX0_become 18 = .ok (.putfield 18, 3) := by decide +kernel
theorem dX0_become_21 : decode cX0_become 21 = .ok (.aload_n 0, 1) := by decide +kernel
theorem dX0_become_22 : decode cX0_become 22 = .ok (.iload 5, 2) := by decide +kernel
theorem dX0_become_24 : decode cX0_become 24 = .ok (.putfield 21, 3) := by decide +kernel
theorem dX0_become_27 : decode cX0_become 27 = .ok (.return_, 1) := by decide +kernel
set_option maxRecDepth 20000 in
theorem ggX1_init_X0_init : GoodIn wsX1_init wsX0_init := goodIn_r _ [10, 11, 2, 3, 12, 13, 14, 15, 19, 20, 21, 22, 23] rfl (by decide +kernel)
set_option maxRecDepth 20000 in
theorem gX1_init_X0_init_n17 : GoodIn wsX1_init (wsX0_init) := ggX1_init_X0_init
theorem dX1_init_0 : decode cX1_init 0 = .ok (.aload_n 0, 1) := by decide +kernel
theorem dX1_init_1 : decode cX1_init 1 = .ok (.invokespecial 3, 3) := by decide +kernel
theorem dX1_init_4 : decode cX1_init 4 = .ok (.aload_n 0, 1) := by decide +kernel
theorem dX1_init_5 : decode cX1_init 5 = .ok (.bipush 20, 2) := by decide +kernel
theorem dX1_init_7 : decode cX1_init 7 = .ok (.anewarray 9, 3) := by decide +kernel
theorem dX1_init_10 : decode cX1_init 10 = .ok (.putfield 11, 3) := by decide +kernel
theorem dX1_init_13 : decode cX1_init 13 = .ok (.aload_n 0, 1) := by decide +kernel
theorem dX1_init_14 : decode cX1_init 14 = .ok (.new 9, 3) := by decide +kernel
theorem dX1_init_17 : decode cX1_init 17 = .ok (.dup, 1) := by decide +kernel
theorem dX1_init_18 : decode cX1_init 18 = .ok (.invokespecial 17, 3) := by decide +kernel
theorem dX1_init_21 : decode cX1_init 21 = .ok (.putfield 18, 3) := by decide +kernel
theorem dX1_init_24 : decode cX1_init 24 = .ok (.iconst 0, 1) := by decide +kernel
theorem dX1_init_25 : decode cX1_init 25 = .ok (.istore_n 1, 1) := by decide +kernel
theorem dX1_init_26 : decode cX1_init 26 = .ok (.iload_n 1, 1) := by decide +kernel
theorem dX1_init_27 : decode cX1_init 27 = .ok (.aload_n 0, 1) := by decide +kernel
theorem dX1_init_28 : decode cX1_init 28 = .ok (.getfield 11, 3) := by decide +kernel
theorem dX1_init_31 : decode cX1_init 31 = .ok (.arraylength, 1) := by decide +kernel
theorem dX1_init_32 : decode cX1_init 32 = .ok (.if_icmp .ge 22, 3) := by decide +kernel
theorem dX1_init_35 : decode cX1_init 35 = .ok (.aload_n 0, 1) := by decide +kernel
theorem dX1_init_36 : decode cX1_init 36 = .ok (.getfield 11, 3) := by decide +kernel
theorem dX1_init_39 : decode cX1_init 39 = .ok (.iload_n 1, 1) := by decide +kernel
theorem dX1_init_40 : decode cX1_init 40 = .ok (.new 9, 3) := by decide +kernel
theorem dX1_init_43 : decode cX1_init 43 = .ok (.dup, 1) := by decide +kernel
theorem dX1_init_44 : decode cX1_init 44 = .ok (.invokespecial 17, 3) := by decide +kernel
theorem dX1_init_47 : decode cX1_init 47 = .ok (.aastore, 1) := by decide +kernel
theorem dX1_init_48 : decode cX1_init 48 = .ok (.iinc 1 1, 3) := by decide +kernel
theorem dX1_init_51 : decode cX1_init 51 = .ok (.goto (-25), 3) := by decide +kernel
theorem dX1_init_54 : decode cX1_init 54 = .ok (.return_, 1) := by decide +kernel
theorem dX1_has_0 : decode cX1_has 0 = .ok (.iload_n 1, 1) := by decide +kernel
theorem dX1_has_1 : decode cX1_has 1 = .ok (.ifCond .lt 15, 3) := by decide +kernel
theorem dX1_has_4 : decode cX1_has 4 = .ok (.iload_n 1, 1) := by decide +kernel
theorem dX1_has_5 : decode cX1_has 5 = .ok (.aload_n 0, 1) := by decide +kernel
theorem dX1_has_6 : decode cX1_has 6 = .ok (.getfield 22, 3) := by decide +kernel
theorem dX1_has_9 : decode cX1_has 9 = .ok (.if_icmp .ge 7, 3) := by decide +kernel
theorem dX1_has_12 : decode cX1_has 12 = .ok (.iconst 1, 1) := by decide +kernel
theorem dX1_has_13 : decode cX1_has 13 = .ok (.goto 4, 3) := by decide +kernel
theorem dX1_has_16 : decode cX1_has 16 = .ok (.iconst 0, 1) := by decide +kernel
theorem dX1_has_17 : decode cX1_has 17 = .ok (.ireturn, 1) := by decide +kernel
theorem dX1_at_0 : decode cX1_at 0 = .ok (.iload_n 1, 1) := by decide +kernel
theorem dX1_at_1 : decode cX1_at 1 = .ok (.ifCond .lt 20, 3) := by decide +kernel
theorem dX1_at_4 : decode cX1_at 4 = .ok (.iload_n 1, 1) := by decide +kernel
theorem dX1_at_5 : decode cX1_at 5 = .ok (.aload_n 0, 1) := by decide +kernel
theorem dX1_at_6 : decode cX1_at 6 = .ok (.getfield 22, 3) := by decide +kernel
theorem dX1_at_9 : decode cX1_at 9 = .ok (.if_icmp .ge 12, 3) := by decide +kernel
theorem dX1_at_12 : decode cX1_at 12 = .ok (.iload_n 1, 1) := by decide +kernel
theorem dX1_at_13 : decode cX1_at 13 = .ok (.aload_n 0, 1) := by decide +kernel
theorem dX1_at_14 : decode cX1_at 14 = .ok (.getfield 11, 3) := by decide +kernel
theorem dX1_at_17 : decode cX1_at 17 = .ok (.arraylength, 1) := by decide +kernel
theorem dX1_at_18 : decode cX1_at 18 = .ok (.if_icmp .lt 8, 3) := by decide +kernel
theorem dX1_at_21 : decode cX1_at 21 = .ok (.aload_n 0, 1) := by decide +kernel
theorem dX1_at_22 : decode cX1_at 22 = .ok (.getfield 18, 3) := by decide +kernel
theorem dX1_at_25 : decode cX1_at 25 = .ok (.areturn, 1) := by decide +kernel
theorem dX1_at_26 : decode cX1_at 26 = .ok (.aload_n 0, 1) := by decide +kernel
theorem dX1_at_27 : decode cX1_at 27 = .ok (.getfield 11, 3) := by decide +kernel
theorem dX1_at_30 : decode cX1_at 30 = .ok (.iload_n 1, 1) := by decide +kernel
theorem dX1_at_31 : decode cX1_at 31 = .ok (.aaload, 1) := by decide +kernel
theorem dX1_at_32 : decode cX1_at 32 = .ok (.astore_n 2, 1) := by decide +kernel
theorem dX1_at_33 : decode cX1_at 33 = .ok (.aload_n 2, 1) := by decide +kernel
theorem dX1_at_34 : decode cX1_at 34 = .ok (.ifnonnull 10, 3) := by decide +kernel
theorem dX1_at_37 : decode cX1_at 37 = .ok (.aload_n 0, 1) := by decide +kernel
theorem dX1_at_38 : decode cX1_at 38 = .ok (.getfield 18, 3) := by decide +kernel
theorem dX1_at_41 : decode cX1_at 41 = .ok (.goto 4, 3) := by decide +kernel
theorem dX1_at_44 : decode cX1_at 44 = .ok (.aload_n 2, 1) := by decide +kernel
theorem dX1_at_45 : decode cX1_at 45 = .ok (.areturn, 1) := by decide +kernel
set_option maxRecDepth 20000 in
theorem ggX1_next_X1_at : GoodIn wsX1_next wsX1_at := goodIn_r _ [8, 1, 2, 3, 9, 10, 11] rfl (by decide +kernel)
set_option maxRecDepth 20000 in
theorem gX1_next_X1_at : GoodIn wsX1_next (wsV RX1 26 RX1 yX1_at wsX1_at) := goodIn_app (goodIn_of _ (by decide +kernel)) ggX1_next_X1_at
theorem dX1_next_0 : decode cX1_next 0 = .ok (.aload_n 0, 1) := by decide +kernel
theorem dX1_next_1 : decode cX1_next 1 = .ok (.getfield 22, 3) := by decide +kernel
theorem dX1_next_4 : decode cX1_next 4 = .ok (.aload_n 0, 1) := by decide +kernel
theorem dX1_next_5 : decode cX1_next 5 = .ok (.getfield 11, 3) := by decide +kernel
theorem dX1_next_8 : decode cX1_next 8 = .ok (.arraylength, 1) := by decide +kernel
theorem dX1_next_9 : decode cX1_next 9 = .ok (.if_icmp .lt 8, 3) := by decide +kernel
theorem dX1_next_12 : decode cX1_next 12 = .ok (.aload_n 0, 1) := by decide +kernel
theorem dX1_next_13 : decode cX1_next 13 = .ok (.getfield 18, 3) := by decide +kernel
theorem dX1_next_16 : decode cX1_next 16 = .ok (.areturn, 1) := by decide +kernel
theorem dX1_next_17 : decode cX1_next 17 = .ok (.aload_n 0, 1) := by decide +kernel
theorem dX1_next_18 : decode cX1_next 18 = .ok (.dup, 1) := by decide +kernel
theorem dX1_next_19 : decode cX1_next 19 = .ok (.getfield 22, 3) := by decide +kernel
theorem dX1_next_22 : decode cX1_next 22 = .ok (.iconst 1, 1) := by decide +kernel
theorem dX1_next_23 : decode cX1_next 23 = .ok (.iadd, 1) := by decide +kernel
theorem dX1_next_24 : decode cX1_next 24 = .ok (.putfield 22, 3) := by decide +kernel
theorem dX1_next_27 : decode cX1_next 27 = .ok (.aload_n 0, 1) := by decide +kernel
theorem dX1_next_28 : decode cX1_next 28 = .ok (.aload_n 0, 1) := by decide +kernel
theorem dX1_next_29 : decode cX1_next 29 = .ok (.getfield 22, 3) := by decide +kernel
theorem dX1_next_32 : decode cX1_next 32 = .ok (.iconst 1, 1) := by decide +kernel
theorem dX1_next_33 : decode cX1_next 33 = .ok (.isub, 1) := by decide +kernel
theorem dX1_next_34 : decode cX1_next 34 = .ok (.invokevirtual 26, 3) := by decide +kernel
theorem dX1_next_37 : decode cX1_next 37 = .ok (.areturn, 1) := by decide +kernel
set_option maxRecDepth 20000 in
theorem ggX2_init_X3_init : GoodIn wsX2_init wsX3_init := goodIn_r _ [13, 14, 2, 3, 15, 16, 17, 18, 27, 28, 29] rfl (by decide +kernel)
set_option maxRecDepth 20000 in
theorem gX2_init_X3_init_n11 : GoodIn wsX2_init (wsX3_init) := ggX2_init_X3_init
set_option maxRecDepth 20000 in
theorem ggX2_init_X4_init : GoodIn wsX2_init wsX4_init := goodIn_r _ [21, 22, 2, 3, 23, 24, 25, 26, 32, 33, 34, 35, 36, 37, 38, 39, 40, 41, 42, 43, 44] rfl (by decide +kernel)
set_option maxRecDepth 20000 in
theorem gX2_init_X4_init : GoodIn wsX2_init (wsX4_init) := ggX2_init_X4_init
theorem dX2_init_0 : decode cX2_init 0 = .ok (.aload_n 0, 1) := by decide +kernel
theorem dX2_init_1 : decode cX2_init 1 = .ok (.invokespecial 3, 3) := by decide +kernel
theorem dX2_init_4 : decode cX2_init 4 = .ok (.aload_n 0, 1) := by decide +kernel
theorem dX2_init_5 : decode cX2_init 5 = .ok (.new 9, 3) := by decide +kernel
theorem dX2_init_8 : decode cX2_init 8 = .ok (.dup, 1) := by decide +kernel
theorem dX2_init_9 : decode cX2_init 9 = .ok (.invokespecial 11, 3) := by decide +kernel
theorem dX2_init_12 : decode cX2_init 12 = .ok (.putfield 12, 3) := by decide +kernel
theorem dX2_init_15 : decode cX2_init 15 = .ok (.aload_n 0, 1) := by decide +kernel
theorem dX2_init_16 : decode cX2_init 16 = .ok (.new 18, 3) := by decide +kernel
theorem dX2_init_19 : decode cX2_init 19 = .ok (.dup, 1) := by decide +kernel
theorem dX2_init_20 : decode cX2_init 20 = .ok (.iconst (-1), 1) := by decide +kernel
theorem dX2_init_21 : decode cX2_init 21 = .ok (.invokespecial 20, 3) := by decide +kernel
theorem dX2_init_24 : decode cX2_init 24 = .ok (.putfield 23, 3) := by decide +kernel
theorem dX2_init_27 : decode cX2_init 27 = .ok (.return_, 1) := by decide +kernel
set_option maxRecDepth 20000 in
theorem ggX2_draw_X2_putPoint : GoodIn wsX2_draw wsX2_putPoint := goodIn_r _ [11, 12, 13, 14, 15, 16, 17, 18, 19, 20, 21, 22, 23, 24, 25, 26, 27, 28, 29, 30, 117, 118, 119, 120, 121, 104, 105, 106, 107, 108, 109, 110, 111, 112, 113, 114, 115, 116] rfl (by decide +kernel)
set_option maxRecDepth 20000 in
theorem gX2_draw_X2_putPoint : GoodIn wsX2_draw (wsV RX2 37 RX2 yX2_putPoint wsX2_putPoint) := goodIn_app (goodIn_of _ (by decide +kernel)) ggX2_draw_X2_putPoint
set_option maxRecDepth 20000 in
theorem ggX2_draw_X2_pointOnLine : GoodIn wsX2_draw wsX2_pointOnLine := goodIn_r _ [34, 6, 35, 12, 5, 7, 8, 9, 10, 11, 13, 14, 15, 16, 17, 18, 19, 20, 21, 22, 23, 24, 25, 26, 27, 28, 29, 30, 36, 37, 38, 39, 40, 41, 42, 43, 44, 45, 104, 105, 106, 107, 108, 109, 110, 111, 112, 113, 114, 115, 116, 117, 118, 119, 120, 121] rfl (by decide +kernel)
set_option maxRecDepth 20000 in
theorem gX2_draw_X2_pointOnLine : GoodIn wsX2_draw (wsV RX2 41 RX2 yX2_pointOnLine wsX2_pointOnLine) := goodIn_app (goodIn_of _ (by decide +kernel)) ggX2_draw_X2_pointOnLine
set_option maxRecDepth 20000 in
theorem ggX2_draw_X2_intersection : GoodIn wsX2_draw wsX2_intersection := goodIn_r _ [49, 12, 5, 6, 35, 13, 14, 15, 16, 17, 18, 19, 20, 21, 22, 36, 37, 38, 39, 40, 41, 42, 43, 44, 45, 7, 8, 9, 10, 11, 23, 24, 25, 26, 27, 28, 29, 30, 117, 118, 104, 105, 106, 107, 108, 109, 110, 111, 112, 113, 114, 115, 116, 119, 120, 121] rfl (by decide +kernel)
set_option maxRecDepth 20000 in
theorem gX2_draw_X2_intersection : GoodIn wsX2_draw (wsV RX2 45 RX2 yX2_intersection wsX2_intersection) := goodIn_app (goodIn_of _ (by decide +kernel)) ggX2_draw_X2_intersection
set_option maxRecDepth 20000 in
theorem ggX2_draw_X2_lineAndCircle : GoodIn wsX2_draw wsX2_lineAndCircle := goodIn_r _ [53, 5, 6, 12, 35, 1, 13, 14, 15, 16, 17, 18, 19, 20, 21, 22, 54, 55, 56, 10, 57, 58, 59, 60, 61, 62, 40, 36, 37, 38, 39, 41, 42, 43, 44, 45, 7, 8, 9, 11, 23, 24, 25, 26, 27, 28, 29, 30, 104, 105, 106, 107, 108, 109, 110, 111, 112, 113, 114, 115, 116, 117, 118, 119, 120, 121] rfl (by decide +kernel)
set_option maxRecDepth 20000 in
theorem gX2_draw_X2_lineAndCircle : GoodIn wsX2_draw (wsV RX2 49 RX2 yX2_lineAndCircle wsX2_lineAndCircle) := goodIn_app (goodIn_of _ (by decide +kernel)) ggX2_draw_X2_lineAndCircle
set_option maxRecDepth 20000 in
theorem ggX2_draw_X2_equalPowers : GoodIn wsX2_draw wsX2_equalPowers := goodIn_r _ [66, 5, 6, 35, 67, 68, 69, 10, 70, 12, 13, 14, 15, 16, 17, 18, 19, 20, 21, 22, 71, 42, 43, 44, 45, 23, 24, 25, 26, 27, 28, 29, 30, 104, 105, 106, 107, 108, 109, 110, 111, 112, 113, 114, 115, 116, 117, 118, 119, 120, 121] rfl (by decide +kernel)
set_option maxRecDepth 20000 in
theorem gX2_draw_X2_equalPowers : GoodIn wsX2_draw (wsV RX2 52 RX2 yX2_equalPowers wsX2_equalPowers) := goodIn_app (goodIn_of _ (by decide +kernel)) ggX2_draw_X2_equalPowers
set_option maxRecDepth 20000 in
theorem ggX2_draw_X2_middle : GoodIn wsX2_draw wsX2_middle := goodIn_r _ [75, 12, 5, 6, 36, 37, 38, 16, 39, 40, 14, 15, 17, 18, 19, 20, 21, 22, 41, 42, 43, 44, 45, 7, 8, 9, 10, 11, 13, 23, 24, 25, 26, 27, 28, 29, 30, 117, 118, 104, 105, 106, 107, 108, 109, 110, 111, 112, 113, 114, 115, 116, 119, 120, 121] rfl (by decide +kernel)
set_option maxRecDepth 20000 in
theorem gX2_draw_X2_middle : GoodIn wsX2_draw (wsV RX2 55 RX2 yX2_middle wsX2_middle) := goodIn_app (goodIn_of _ (by decide +kernel)) ggX2_draw_X2_middle
set_option maxRecDepth 20000 in
theorem ggX2_draw_X2_mirror : GoodIn wsX2_draw wsX2_mirror := goodIn_r _ [79, 12, 5, 6, 54, 55, 56, 10, 57, 35, 13, 14, 15, 16, 17, 18, 19, 20, 21, 22, 36, 37, 38, 39, 40, 41, 42, 43, 44, 45, 7, 8, 9, 11, 23, 24, 25, 26, 27, 28, 29, 30, 117, 118, 104, 105, 106, 107, 108, 109, 110, 111, 112, 113, 114, 115, 116, 119, 120, 121] rfl (by decide +kernel)
set_option maxRecDepth 20000 in
theorem gX2_draw_X2_mirror : GoodIn wsX2_draw (wsV RX2 58 RX2 yX2_mirror wsX2_mirror) := goodIn_app (goodIn_of _ (by decide +kernel)) ggX2_draw_X2_mirror
set_option maxRecDepth 20000 in
theorem ggX2_draw_X2_lineThrough : GoodIn wsX2_draw wsX2_lineThrough := goodIn_r _ [83, 6, 5, 67, 68, 69, 10, 70, 12, 13, 14, 15, 16, 17, 18, 19, 20, 21, 22, 71, 42, 43, 44, 45, 23, 24, 25, 26, 27, 28, 29, 30, 104, 105, 106, 107, 108, 109, 110, 111, 112, 113, 114, 115, 116, 117, 118, 119, 120, 121] rfl (by decide +kernel)
set_option maxRecDepth 20000 in
theorem gX2_draw_X2_lineThrough : GoodIn wsX2_draw (wsV RX2 61 RX2 yX2_lineThrough wsX2_lineThrough) := goodIn_app (goodIn_of _ (by decide +kernel)) ggX2_draw_X2_lineThrough
set_option maxRecDepth 20000 in
theorem ggX2_draw_X2_lineAlong : GoodIn wsX2_draw wsX2_lineAlong := goodIn_r _ [87, 5, 6, 67, 68, 69, 10, 70, 12, 13, 14, 15, 16, 17, 18, 19, 20, 21, 22, 71, 42, 43, 44, 45, 23, 24, 25, 26, 27, 28, 29, 30, 104, 105, 106, 107, 108, 109, 110, 111, 112, 113, 114, 115, 116, 117, 118, 119, 120, 121] rfl (by decide +kernel)
set_option maxRecDepth 20000 in
theorem gX2_draw_X2_lineAlong : GoodIn wsX2_draw (wsV RX2 70 RX2 yX2_lineAlong wsX2_lineAlong) := goodIn_app (goodIn_of _ (by decide +kernel)) ggX2_draw_X2_lineAlong
set_option maxRecDepth 20000 in
theorem ggX2_draw_X2_lineBetween : GoodIn wsX2_draw wsX2_lineBetween := goodIn_r _ [91, 5, 6, 67, 68, 69, 10, 70, 12, 13, 14, 15, 16, 17, 18, 19, 20, 21, 22, 71, 42, 43, 44, 45, 23, 24, 25, 26, 27, 28, 29, 30, 104, 105, 106, 107, 108, 109, 110, 111, 112, 113, 114, 115, 116, 117, 118, 119, 120, 121] rfl (by decide +kernel)
set_option maxRecDepth 20000 in
theorem gX2_draw_X2_lineBetween : GoodIn wsX2_draw (wsV RX2 74 RX2 yX2_lineBetween wsX2_lineBetween) := goodIn_app (goodIn_of _ (by decide +kernel)) ggX2_draw_X2_lineBetween
set_option maxRecDepth 20000 in
theorem ggX2_draw_X2_squareOf : GoodIn wsX2_draw wsX2_squareOf := goodIn_r _ [95, 5, 6, 12, 13, 14, 15, 16, 17, 18, 19, 20, 21, 22, 104, 105, 106, 107, 108, 109, 110, 111, 112, 113, 114, 115, 116, 117, 118, 119, 120, 121] rfl (by decide +kernel)
set_option maxRecDepth 20000 in
theorem gX2_draw_X2_squareOf : GoodIn wsX2_draw (wsV RX2 77 RX2 yX2_squareOf wsX2_squareOf) := goodIn_app (goodIn_of _ (by decide +kernel)) ggX2_draw_X2_squareOf
set_option maxRecDepth 20000 in
theorem ggX2_draw_X2_putCircle : GoodIn wsX2_draw wsX2_putCircle := goodIn_r _ [99, 12, 35, 13, 14, 15, 16, 17, 18, 19, 20, 21, 22, 23, 24, 25, 26, 27, 28, 29, 30, 117, 118, 104, 105, 106, 107, 108, 109, 110, 111, 112, 113, 114, 115, 116, 119, 120, 121] rfl (by decide +kernel)
set_option maxRecDepth 20000 in
theorem gX2_draw_X2_putCircle : GoodIn wsX2_draw (wsV RX2 81 RX2 yX2_putCircle wsX2_putCircle) := goodIn_app (goodIn_of _ (by decide +kernel)) ggX2_draw_X2_putCircle
set_option maxRecDepth 20000 in
theorem ggX2_draw_X2_circleThrough : GoodIn wsX2_draw wsX2_circleThrough := goodIn_r _ [103, 5, 6, 12, 13, 14, 15, 16, 17, 18, 19, 20, 21, 22, 36, 37, 38, 39, 40, 41, 42, 43, 44, 45, 96, 97, 98, 10, 99, 35, 23, 24, 25, 26, 27, 28, 29, 30, 104, 105, 106, 107, 108, 109, 110, 111, 112, 113, 114, 115, 116, 117, 118, 119, 120, 121] rfl (by decide +kernel)
set_option maxRecDepth 20000 in
theorem gX2_draw_X2_circleThrough : GoodIn wsX2_draw (wsV RX2 85 RX2 yX2_circleThrough wsX2_circleThrough) := goodIn_app (goodIn_of _ (by decide +kernel)) ggX2_draw_X2_circleThrough
theorem dX2_draw_0 : decode cX2_draw 0 = .ok (.aload_n 1, 1) := by decide +kernel
theorem dX2_draw_1 : decode cX2_draw 1 = .ok (.getfield 27, 3) := by decide +kernel
theorem dX2_draw_4 : decode cX2_draw 4 = .ok (.tableswitch 295 0 22 #[108, 122, 133, 141, 141, 149, 149, 181, 189, 295, 197, 205, 220, 236, 295, 295, 295, 295, 295, 295, 244, 264, 285], 108) := by decide +kernel
theorem dX2_draw_112 : decode cX2_draw 112 = .ok (.aload_n 0, 1) := by decide +kernel
theorem dX2_draw_113 : decode cX2_draw 113 = .ok (.aload_n 1, 1) := by decide +kernel
theorem dX2_draw_114 : decode cX2_draw 114 = .ok (.aload_n 1, 1) := by decide +kernel
theorem dX2_draw_115 : decode cX2_draw 115 = .ok (.getfield 31, 3) := by decide +kernel
theorem dX2_draw_118 : decode cX2_draw 118 = .ok (.aload_n 1, 1) := by decide +kernel
theorem dX2_draw_119 : decode cX2_draw 119 = .ok (.getfield 34, 3) := by decide +kernel
theorem dX2_draw_122 : decode cX2_draw 122 = .ok (.invokevirtual 37, 3) := by decide +kernel
theorem dX2_draw_125 : decode cX2_draw 125 = .ok (.ireturn, 1) := by decide +kernel
theorem dX2_draw_126 : decode cX2_draw 126 = .ok (.aload_n 0, 1) := by decide +kernel
theorem dX2_draw_127 : decode cX2_draw 127 = .ok (.aload_n 1, 1) := by decide +kernel
theorem dX2_draw_128 : decode cX2_draw 128 = .ok (.aload_n 2, 1) := by decide +kernel
theorem dX2_draw_129 : decode cX2_draw 129 = .ok (.aload_n 1, 1) := by decide +kernel
theorem dX2_draw_130 : decode cX2_draw 130 = .ok (.getfield 31, 3) := by decide +kernel
theorem dX2_draw_133 : decode cX2_draw 133 = .ok (.invokevirtual 41, 3) := by decide +kernel
theorem dX2_draw_136 : decode cX2_draw 136 = .ok (.ireturn, 1) := by decide +kernel
theorem dX2_draw_137 : decode cX2_draw 137 = .ok (.aload_n 0, 1) := by decide +kernel
theorem dX2_draw_138 : decode cX2_draw 138 = .ok (.aload_n 1, 1) := by decide +kernel
theorem dX2_draw_139 : decode cX2_draw 139 = .ok (.aload_n 2, 1) := by decide +kernel
theorem dX2_draw_140 : decode cX2_draw 140 = .ok (.aload_n 3, 1) := by decide +kernel
theorem dX2_draw_141 : decode cX2_draw 141 = .ok (.invokevirtual 45, 3) := by decide +kernel
theorem dX2_draw_144 : decode cX2_draw 144 = .ok (.ireturn, 1) := by decide +kernel
theorem dX2_draw_145 : decode cX2_draw 145 = .ok (.aload_n 0, 1) := by decide +kernel
theorem dX2_draw_146 : decode cX2_draw 146 = .ok (.aload_n 1, 1) := by decide +kernel
theorem dX2_draw_147 : decode cX2_draw 147 = .ok (.aload_n 2, 1) := by decide +kernel
theorem dX2_draw_148 : decode cX2_draw 148 = .ok (.aload_n 3, 1) := by decide +kernel
theorem dX2_draw_149 : decode cX2_draw 149 = .ok (.invokevirtual 49, 3) := by decide +kernel
theorem dX2_draw_152 : decode cX2_draw 152 = .ok (.ireturn, 1) := by decide +kernel
theorem dX2_draw_153 : decode cX2_draw 153 = .ok (.aload_n 0, 1) := by decide +kernel
theorem dX2_draw_154 : decode cX2_draw 154 = .ok (.aload_n 0, 1) := by decide +kernel
theorem dX2_draw_155 : decode cX2_draw 155 = .ok (.getfield 23, 3) := by decide +kernel
theorem dX2_draw_158 : decode cX2_draw 158 = .ok (.aload_n 2, 1) := by decide +kernel
theorem dX2_draw_159 : decode cX2_draw 159 = .ok (.aload_n 3, 1) := by decide +kernel
theorem dX2_draw_160 : decode cX2_draw 160 = .ok (.invokevirtual 52, 3) := by decide +kernel
theorem dX2_draw_163 : decode cX2_draw 163 = .ok (.ifCond .eq 20, 3) := by decide +kernel
theorem dX2_draw_166 : decode cX2_draw 166 = .ok (.aload_n 0, 1) := by decide +kernel
theorem dX2_draw_167 : decode cX2_draw 167 = .ok (.aload_n 1, 1) := by decide +kernel
theorem dX2_draw_168 : decode cX2_draw 168 = .ok (.aload_n 0, 1) := by decide +kernel
theorem dX2_draw_169 : decode cX2_draw 169 = .ok (.getfield 23, 3) := by decide +kernel
theorem dX2_draw_172 : decode cX2_draw 172 = .ok (.aload_n 2, 1) := by decide +kernel
theorem dX2_draw_173 : decode cX2_draw 173 = .ok (.invokevirtual 49, 3) := by decide +kernel
theorem dX2_draw_176 : decode cX2_draw 176 = .ok (.ifCond .eq 7, 3) := by decide +kernel
theorem dX2_draw_179 : decode cX2_draw 179 = .ok (.iconst 1, 1) := by decide +kernel
theorem dX2_draw_180 : decode cX2_draw 180 = .ok (.goto 4, 3) := by decide +kernel
theorem dX2_draw_183 : decode cX2_draw 183 = .ok (.iconst 0, 1) := by decide +kernel
theorem dX2_draw_184 : decode cX2_draw 184 = .ok (.ireturn, 1) := by decide +kernel
theorem dX2_draw_185 : decode cX2_draw 185 = .ok (.aload_n 0, 1) := by decide +kernel
theorem dX2_draw_186 : decode cX2_draw 186 = .ok (.aload_n 1, 1) := by decide +kernel
theorem dX2_draw_187 : decode cX2_draw 187 = .ok (.aload_n 2, 1) := by decide +kernel
theorem dX2_draw_188 : decode cX2_draw 188 = .ok (.aload_n 3, 1) := by decide +kernel
theorem dX2_draw_189 : decode cX2_draw 189 = .ok (.invokevirtual 55, 3) := by decide +kernel
theorem dX2_draw_192 : decode cX2_draw 192 = .ok (.ireturn, 1) := by decide +kernel
theorem dX2_draw_193 : decode cX2_draw 193 = .ok (.aload_n 0, 1) := by decide +kernel
theorem dX2_draw_194 : decode cX2_draw 194 = .ok (.aload_n 1, 1) := by decide +kernel
theorem dX2_draw_195 : decode cX2_draw 195 = .ok (.aload_n 2, 1) := by decide +kernel
theorem dX2_draw_196 : decode cX2_draw 196 = .ok (.aload_n 3, 1) := by decide +kernel
theorem dX2_draw_197 : decode cX2_draw 197 = .ok (.invokevirtual 58, 3) := by decide +kernel
theorem dX2_draw_200 : decode cX2_draw 200 = .ok (.ireturn, 1) := by decide +kernel
theorem dX2_draw_201 : decode cX2_draw 201 = .ok (.aload_n 0, 1) := by decide +kernel
theorem dX2_draw_202 : decode cX2_draw 202 = .ok (.aload_n 1, 1) := by decide +kernel
theorem dX2_draw_203 : decode cX2_draw 203 = .ok (.aload_n 2, 1) := by decide +kernel
theorem dX2_draw_204 : decode cX2_draw 204 = .ok (.aload_n 3, 1) := by decide +kernel
theorem dX2_draw_205 : decode cX2_draw 205 = .ok (.invokevirtual 61, 3) := by decide +kernel
theorem dX2_draw_208 : decode cX2_draw 208 = .ok (.ireturn, 1) := by decide +kernel
theorem dX2_draw_209 : decode cX2_draw 209 = .ok (.aload_n 0, 1) := by decide +kernel
theorem dX2_draw_210 : decode cX2_draw 210 = .ok (.aload_n 1, 1) := by decide +kernel
theorem dX2_draw_211 : decode cX2_draw 211 = .ok (.aload_n 2, 1) := by decide +kernel
theorem dX2_draw_212 : decode cX2_draw 212 = .ok (.aload_n 3, 1) := by decide +kernel
theorem dX2_draw_213 : decode cX2_draw 213 = .ok (.getfield 64, 3) := by decide +kernel
theorem dX2_draw_216 : decode cX2_draw 216 = .ok (.aload_n 3, 1) := by decide +kernel
theorem dX2_draw_217 : decode cX2_draw 217 = .ok (.getfield 67, 3) := by decide +kernel
theorem dX2_draw_220 : decode cX2_draw 220 = .ok (.invokevirtual 70, 3) := by decide +kernel
theorem dX2_draw_223 : decode cX2_draw 223 = .ok (.ireturn, 1) := by decide +kernel
theorem dX2_draw_224 : decode cX2_draw 224 = .ok (.aload_n 0, 1) := by decide +kernel
theorem dX2_draw_225 : decode cX2_draw 225 = .ok (.aload_n 1, 1) := by decide +kernel
theorem dX2_draw_226 : decode cX2_draw 226 = .ok (.aload_n 2, 1) := by decide +kernel
theorem dX2_draw_227 : decode cX2_draw 227 = .ok (.aload_n 3, 1) := by decide +kernel
theorem dX2_draw_228 : decode cX2_draw 228 = .ok (.getfield 67, 3) := by decide +kernel
theorem dX2_draw_231 : decode cX2_draw 231 = .ok (.ineg, 1) := by decide +kernel
theorem dX2_draw_232 : decode cX2_draw 232 = .ok (.aload_n 3, 1) := by decide +kernel
theorem dX2_draw_233 : decode cX2_draw 233 = .ok (.getfield 64, 3) := by decide +kernel
theorem dX2_draw_236 : decode cX2_draw 236 = .ok (.invokevirtual 70, 3) := by decide +kernel
theorem dX2_draw_239 : decode cX2_draw 239 = .ok (.ireturn, 1) := by decide +kernel
theorem dX2_draw_240 : decode cX2_draw 240 = .ok (.aload_n 0, 1) := by decide +kernel
theorem dX2_draw_241 : decode cX2_draw 241 = .ok (.aload_n 1, 1) := by decide +kernel
theorem dX2_draw_242 : decode cX2_draw 242 = .ok (.aload_n 2, 1) := by decide +kernel
theorem dX2_draw_243 : decode cX2_draw 243 = .ok (.aload_n 3, 1) := by decide +kernel
theorem dX2_draw_244 : decode cX2_draw 244 = .ok (.invokevirtual 74, 3) := by decide +kernel
theorem dX2_draw_247 : decode cX2_draw 247 = .ok (.ireturn, 1) := by decide +kernel
theorem dX2_draw_248 : decode cX2_draw 248 = .ok (.aload_n 0, 1) := by decide +kernel
theorem dX2_draw_249 : decode cX2_draw 249 = .ok (.aload_n 1, 1) := by decide +kernel
theorem dX2_draw_250 : decode cX2_draw 250 = .ok (.aload_n 2, 1) := by decide +kernel
theorem dX2_draw_251 : decode cX2_draw 251 = .ok (.getfield 64, 3) := by decide +kernel
theorem dX2_draw_254 : decode cX2_draw 254 = .ok (.aload_n 2, 1) := by decide +kernel
theorem dX2_draw_255 : decode cX2_draw 255 = .ok (.getfield 67, 3) := by decide +kernel
theorem dX2_draw_258 : decode cX2_draw 258 = .ok (.aload_n 0, 1) := by decide +kernel
theorem dX2_draw_259 : decode cX2_draw 259 = .ok (.aload_n 2, 1) := by decide +kernel
theorem dX2_draw_260 : decode cX2_draw 260 = .ok (.aload_n 3, 1) := by decide +kernel
theorem dX2_draw_261 : decode cX2_draw 261 = .ok (.invokevirtual 77, 3) := by decide +kernel
theorem dX2_draw_264 : decode cX2_draw 264 = .ok (.invokevirtual 81, 3) := by decide +kernel
theorem dX2_draw_267 : decode cX2_draw 267 = .ok (.ireturn, 1) := by decide +kernel
theorem dX2_draw_268 : decode cX2_draw 268 = .ok (.aload_n 0, 1) := by decide +kernel
theorem dX2_draw_269 : decode cX2_draw 269 = .ok (.aload_n 1, 1) := by decide +kernel
theorem dX2_draw_270 : decode cX2_draw 270 = .ok (.aload_n 2, 1) := by decide +kernel
theorem dX2_draw_271 : decode cX2_draw 271 = .ok (.getfield 64, 3) := by decide +kernel
theorem dX2_draw_274 : decode cX2_draw 274 = .ok (.aload_n 2, 1) := by decide +kernel
theorem dX2_draw_275 : decode cX2_draw 275 = .ok (.getfield 67, 3) := by decide +kernel
theorem dX2_draw_278 : decode cX2_draw 278 = .ok (.aload_n 0, 1) := by decide +kernel
theorem dX2_draw_279 : decode cX2_draw 279 = .ok (.aload_n 3, 1) := by decide +kernel
theorem dX2_draw_280 : decode cX2_draw 280 = .ok (.aload 4, 2) := by decide +kernel
theorem dX2_draw_282 : decode cX2_draw 282 = .ok (.invokevirtual 77, 3) := by decide +kernel
theorem dX2_draw_285 : decode cX2_draw 285 = .ok (.invokevirtual 81, 3) := by decide +kernel
theorem dX2_draw_288 : decode cX2_draw 288 = .ok (.ireturn, 1) := by decide +kernel
theorem dX2_draw_289 : decode cX2_draw 289 = .ok (.aload_n 0, 1) := by decide +kernel
theorem dX2_draw_290 : decode cX2_draw 290 = .ok (.aload_n 1, 1) := by decide +kernel
theorem dX2_draw_291 : decode cX2_draw 291 = .ok (.aload_n 2, 1) := by decide +kernel
theorem dX2_draw_292 : decode cX2_draw 292 = .ok (.aload_n 3, 1) := by decide +kernel
theorem dX2_draw_293 : decode cX2_draw 293 = .ok (.aload 4, 2) := by decide +kernel
theorem dX2_draw_295 : decode cX2_draw 295 = .ok (.invokevirtual 85, 3) := by decide +kernel
theorem dX2_draw_298 : decode cX2_draw 298 = .ok (.ireturn, 1) := by decide +kernel
theorem dX2_draw_299 : decode cX2_draw 299 = .ok (.iconst 0, 1) := by decide +kernel
theorem dX2_draw_300 : decode cX2_draw 300 = .ok (.ireturn, 1) := by decide +kernel
set_option maxRecDepth 20000 in
theorem ggX2_putPoint_X3_rest : GoodIn wsX2_putPoint wsX3_rest := goodIn_r _ [6, 7, 8, 9, 10, 11, 22, 23, 24] rfl (by decide +kernel)
set_option maxRecDepth 20000 in
theorem gX2_putPoint_X3_rest : GoodIn wsX2_putPoint (wsV RX2 89 RX3 yX3_rest wsX3_rest) := goodIn_app (goodIn_of _ (by decide +kernel)) ggX2_putPoint_X3_rest
set_option maxRecDepth 20000 in
theorem ggX2_putPoint_X4_put : GoodIn wsX2_putPoint wsX4_put := goodIn_r _ [16, 17, 18, 19, 25, 26, 27, 28, 29, 30, 31, 32, 33, 34, 35, 36, 37] rfl (by decide +kernel)
set_option maxRecDepth 20000 in
theorem gX2_putPoint_X4_put : GoodIn wsX2_putPoint (wsV RX2 93 RX4 yX4_put wsX4_put) := goodIn_app (goodIn_of _ (by decide +kernel)) ggX2_putPoint_X4_put
theorem dX2_putPoint_0 : decode cX2_putPoint 0 = .ok (.aload_n 1, 1) := by decide +kernel
theorem dX2_putPoint_1 : decode cX2_putPoint 1 = .ok (.aload_n 0, 1) := by decide +kernel
theorem dX2_putPoint_2 : decode cX2_putPoint 2 = .ok (.getfield 12, 3) := by decide +kernel
theorem dX2_putPoint_5 : decode cX2_putPoint 5 = .ok (.iload_n 2, 1) := by decide +kernel
theorem dX2_putPoint_6 : decode cX2_putPoint 6 = .ok (.invokevirtual 89, 3) := by decide +kernel
theorem dX2_putPoint_9 : decode cX2_putPoint 9 = .ok (.aload_n 0, 1) := by decide +kernel
theorem dX2_putPoint_10 : decode cX2_putPoint 10 = .ok (.getfield 12, 3) := by decide +kernel
theorem dX2_putPoint_13 : decode cX2_putPoint 13 = .ok (.iload_n 3, 1) := by decide +kernel
theorem dX2_putPoint_14 : decode cX2_putPoint 14 = .ok (.invokevirtual 89, 3) := by decide +kernel
theorem dX2_putPoint_17 : decode cX2_putPoint 17 = .ok (.iconst 0, 1) := by decide +kernel
theorem dX2_putPoint_18 : decode cX2_putPoint 18 = .ok (.invokevirtual 93, 3) := by decide +kernel
theorem dX2_putPoint_21 : decode cX2_putPoint 21 = .ok (.iconst 1, 1) := by decide +kernel
theorem dX2_putPoint_22 : decode cX2_putPoint 22 = .ok (.ireturn, 1) := by decide +kernel
set_option maxRecDepth 20000 in
theorem ggX2_putLine_X3_rest : GoodIn wsX2_putLine wsX3_rest := goodIn_r _ [6, 7, 8, 9, 10, 11, 27, 28, 29] rfl (by decide +kernel)
set_option maxRecDepth 20000 in
theorem gX2_putLine_X3_rest : GoodIn wsX2_putLine (wsV RX2 89 RX3 yX3_rest wsX3_rest) := goodIn_app (goodIn_of _ (by decide +kernel)) ggX2_putLine_X3_rest
set_option maxRecDepth 20000 in
theorem ggX2_putLine_X3_inverseOf : GoodIn wsX2_putLine wsX3_inverseOf := goodIn_r _ [15, 16, 27, 28, 29] rfl (by decide +kernel)
set_option maxRecDepth 20000 in
theorem gX2_putLine_X3_inverseOf : GoodIn wsX2_putLine (wsV RX2 97 RX3 yX3_inverseOf wsX3_inverseOf) := goodIn_app (goodIn_of _ (by decide +kernel)) ggX2_putLine_X3_inverseOf
set_option maxRecDepth 20000 in
theorem ggX2_putLine_X4_put : GoodIn wsX2_putLine wsX4_put := goodIn_r _ [21, 22, 23, 24, 30, 31, 32, 33, 34, 35, 36, 37, 38, 39, 40, 41, 42] rfl (by decide +kernel)
set_option maxRecDepth 20000 in
theorem gX2_putLine_X4_put : GoodIn wsX2_putLine (wsV RX2 93 RX4 yX4_put wsX4_put) := goodIn_app (goodIn_of _ (by decide +kernel)) ggX2_putLine_X4_put
theorem dX2_putLine_0 : decode cX2_putLine 0 = .ok (.aload_n 0, 1) := by decide +kernel
theorem dX2_putLine_1 : decode cX2_putLine 1 = .ok (.getfield 12, 3) := by decide +kernel
theorem dX2_putLine_4 : decode cX2_putLine 4 = .ok (.aload_n 0, 1) := by decide +kernel
theorem dX2_putLine_5 : decode cX2_putLine 5 = .ok (.getfield 12, 3) := by decide +kernel
theorem dX2_putLine_8 : decode cX2_putLine 8 = .ok (.iload_n 2, 1) := by decide +kernel
theorem dX2_putLine_9 : decode cX2_putLine 9 = .ok (.invokevirtual 89, 3) := by decide +kernel
theorem dX2_putLine_12 : decode cX2_putLine 12 = .ok (.ifCond .eq 7, 3) := by decide +kernel
theorem dX2_putLine_15 : decode cX2_putLine 15 = .ok (.iload_n 2, 1) := by decide +kernel
theorem dX2_putLine_16 : decode cX2_putLine 16 = .ok (.goto 4, 3) := by decide +kernel
theorem dX2_putLine_19 : decode cX2_putLine 19 = .ok (.iload_n 3, 1) := by decide +kernel
theorem dX2_putLine_20 : decode cX2_putLine 20 = .ok (.invokevirtual 89, 3) := by decide +kernel
theorem dX2_putLine_23 : decode cX2_putLine 23 = .ok (.istore 5, 2) := by decide +kernel
theorem dX2_putLine_25 : decode cX2_putLine 25 = .ok (.iload 5, 2) := by decide +kernel
theorem dX2_putLine_27 : decode cX2_putLine 27 = .ok (.ifCond .ne 5, 3) := by decide +kernel
theorem dX2_putLine_30 : decode cX2_putLine 30 = .ok (.iconst 0, 1) := by decide +kernel
theorem dX2_putLine_31 : decode cX2_putLine 31 = .ok (.ireturn, 1) := by decide +kernel
theorem dX2_putLine_32 : decode cX2_putLine 32 = .ok (.aload_n 0, 1) := by decide +kernel
theorem dX2_putLine_33 : decode cX2_putLine 33 = .ok (.getfield 12, 3) := by decide +kernel
theorem dX2_putLine_36 : decode cX2_putLine 36 = .ok (.iload 5, 2) := by decide +kernel
theorem dX2_putLine_38 : decode cX2_putLine 38 = .ok (.invokevirtual 97, 3) := by decide +kernel
theorem dX2_putLine_41 : decode cX2_putLine 41 = .ok (.istore 6, 2) := by decide +kernel
theorem dX2_putLine_43 : decode cX2_putLine 43 = .ok (.aload_n 1, 1) := by decide +kernel
theorem dX2_putLine_44 : decode cX2_putLine 44 = .ok (.aload_n 0, 1) := by decide +kernel
theorem dX2_putLine_45 : decode cX2_putLine 45 = .ok (.getfield 12, 3) := by decide +kernel
theorem dX2_putLine_48 : decode cX2_putLine 48 = .ok (.iload_n 2, 1) := by decide +kernel
theorem dX2_putLine_49 : decode cX2_putLine 49 = .ok (.iload 6, 2) := by decide +kernel
theorem dX2_putLine_51 : decode cX2_putLine 51 = .ok (.imul, 1) := by decide +kernel
theorem dX2_putLine_52 : decode cX2_putLine 52 = .ok (.invokevirtual 89, 3) := by decide +kernel
theorem dX2_putLine_55 : decode cX2_putLine 55 = .ok (.aload_n 0, 1) := by decide +kernel
theorem dX2_putLine_56 : decode cX2_putLine 56 = .ok (.getfield 12, 3) := by decide +kernel
theorem dX2_putLine_59 : decode cX2_putLine 59 = .ok (.iload_n 3, 1) := by decide +kernel
theorem dX2_putLine_60 : decode cX2_putLine 60 = .ok (.iload 6, 2) := by decide +kernel
theorem dX2_putLine_62 : decode cX2_putLine 62 = .ok (.imul, 1) := by decide +kernel
theorem dX2_putLine_63 : decode cX2_putLine 63 = .ok (.invokevirtual 89, 3) := by decide +kernel
theorem dX2_putLine_66 : decode cX2_putLine 66 = .ok (.aload_n 0, 1) := by decide +kernel
theorem dX2_putLine_67 : decode cX2_putLine 67 = .ok (.getfield 12, 3) := by decide +kernel
theorem dX2_putLine_70 : decode cX2_putLine 70 = .ok (.iload 4, 2) := by decide +kernel
theorem dX2_putLine_72 : decode cX2_putLine 72 = .ok (.iload 6, 2) := by decide +kernel
theorem dX2_putLine_74 : decode cX2_putLine 74 = .ok (.imul, 1) := by decide +kernel
theorem dX2_putLine_75 : decode cX2_putLine 75 = .ok (.invokevirtual 89, 3) := by decide +kernel
theorem dX2_putLine_78 : decode cX2_putLine 78 = .ok (.invokevirtual 93, 3) := by decide +kernel
theorem dX2_putLine_81 : decode cX2_putLine 81 = .ok (.iconst 1, 1) := by decide +kernel
theorem dX2_putLine_82 : decode cX2_putLine 82 = .ok (.ireturn, 1) := by decide +kernel
set_option maxRecDepth 20000 in
theorem ggX2_putCircle_X3_rest : GoodIn wsX2_putCircle wsX3_rest := goodIn_r _ [7, 8, 9, 10, 11, 12, 36, 37, 38] rfl (by decide +kernel)
set_option maxRecDepth 20000 in
theorem gX2_putCircle_X3_rest : GoodIn wsX2_putCircle (wsV RX2 89 RX3 yX3_rest wsX3_rest) := goodIn_app (goodIn_of _ (by decide +kernel)) ggX2_putCircle_X3_rest
set_option maxRecDepth 20000 in
theorem ggX2_putCircle_X4_put : GoodIn wsX2_putCircle wsX4_put := goodIn_r _ [17, 18, 19, 20, 23, 24, 25, 26, 27, 28, 29, 30, 31, 32, 33, 34, 35] rfl (by decide +kernel)
set_option maxRecDepth 20000 in
theorem gX2_putCircle_X4_put : GoodIn wsX2_putCircle (wsV RX2 93 RX4 yX4_put wsX4_put) := goodIn_app (goodIn_of _ (by decide +kernel)) ggX2_putCircle_X4_put
theorem dX2_putCircle_0 : decode cX2_putCircle 0 = .ok (.aload_n 1, 1) := by decide +kernel
theorem dX2_putCircle_1 : decode cX2_putCircle 1 = .ok (.aload_n 0, 1) := by decide +kernel
theorem dX2_putCircle_2 : decode cX2_putCircle 2 = .ok (.getfield 12, 3) := by decide +kernel
theorem dX2_putCircle_5 : decode cX2_putCircle 5 = .ok (.iload_n 2, 1) := by decide +kernel
theorem dX2_putCircle_6 : decode cX2_putCircle 6 = .ok (.invokevirtual 89, 3) := by decide +kernel
theorem dX2_putCircle_9 : decode cX2_putCircle 9 = .ok (.aload_n 0, 1) := by decide +kernel
theorem dX2_putCircle_10 : decode cX2_putCircle 10 = .ok (.getfield 12, 3) := by decide +kernel
theorem dX2_putCircle_13 : decode cX2_putCircle 13 = .ok (.iload_n 3, 1) := by decide +kernel
theorem dX2_putCircle_14 : decode cX2_putCircle 14 = .ok (.invokevirtual 89, 3) := by decide +kernel
theorem dX2_putCircle_17 : decode cX2_putCircle 17 = .ok (.aload_n 0, 1) := by decide +kernel
theorem dX2_putCircle_18 : decode cX2_putCircle 18 = .ok (.getfield 12, 3) := by decide +kernel
theorem dX2_putCircle_21 : decode cX2_putCircle 21 = .ok (.iload 4, 2) := by decide +kernel
theorem dX2_putCircle_23 : decode cX2_putCircle 23 = .ok (.invokevirtual 89, 3) := by decide +kernel
theorem dX2_putCircle_26 : decode cX2_putCircle 26 = .ok (.invokevirtual 93, 3) := by decide +kernel
theorem dX2_putCircle_29 : decode cX2_putCircle 29 = .ok (.aload_n 1, 1) := by decide +kernel
theorem dX2_putCircle_30 : decode cX2_putCircle 30 = .ok (.getfield 100, 3) := by decide +kernel
theorem dX2_putCircle_33 : decode cX2_putCircle 33 = .ok (.ifCond .eq 7, 3) := by decide +kernel
theorem dX2_putCircle_36 : decode cX2_putCircle 36 = .ok (.iconst 1, 1) := by decide +kernel
theorem dX2_putCircle_37 : decode cX2_putCircle 37 = .ok (.goto 4, 3) := by decide +kernel
theorem dX2_putCircle_40 : decode cX2_putCircle 40 = .ok (.iconst 0, 1) := by decide +kernel
theorem dX2_putCircle_41 : decode cX2_putCircle 41 = .ok (.ireturn, 1) := by decide +kernel
set_option maxRecDepth 20000 in
theorem ggX2_pointOnLine_X2_putPoint : GoodIn wsX2_pointOnLine wsX2_putPoint := goodIn_r _ [9, 3, 10, 11, 12, 13, 14, 15, 16, 17, 18, 19, 20, 21, 22, 23, 24, 25, 26, 27, 51, 52, 53, 54, 55, 38, 39, 40, 41, 42, 43, 44, 45, 46, 47, 48, 49, 50] rfl (by decide +kernel)
set_option maxRecDepth 20000 in
theorem gX2_pointOnLine_X2_putPoint : GoodIn wsX2_pointOnLine (wsV RX2 37 RX2 yX2_putPoint wsX2_putPoint) := goodIn_app (goodIn_of _ (by decide +kernel)) ggX2_pointOnLine_X2_putPoint
set_option maxRecDepth 20000 in
theorem ggX2_pointOnLine_X3_ratio : GoodIn wsX2_pointOnLine wsX3_ratio := goodIn_r _ [31, 32, 11, 12, 13, 14, 15, 16, 17, 18, 19, 33, 34, 35, 36, 37, 53, 54, 55] rfl (by decide +kernel)
set_option maxRecDepth 20000 in
theorem gX2_pointOnLine_X3_ratio : GoodIn wsX2_pointOnLine (wsV RX2 103 RX3 yX3_ratio wsX3_ratio) := goodIn_app (goodIn_of _ (by decide +kernel)) ggX2_pointOnLine_X3_ratio
theorem dX2_pointOnLine_0 : decode cX2_pointOnLine 0 = .ok (.aload_n 2, 1) := by decide +kernel
theorem dX2_pointOnLine_1 : decode cX2_pointOnLine 1 = .ok (.getfield 67, 3) := by decide +kernel
theorem dX2_pointOnLine_4 : decode cX2_pointOnLine 4 = .ok (.ifCond .ne 15, 3) := by decide +kernel
theorem dX2_pointOnLine_7 : decode cX2_pointOnLine 7 = .ok (.aload_n 0, 1) := by decide +kernel
theorem dX2_pointOnLine_8 : decode cX2_pointOnLine 8 = .ok (.aload_n 1, 1) := by decide +kernel
theorem dX2_pointOnLine_9 : decode cX2_pointOnLine 9 = .ok (.aload_n 2, 1) := by decide +kernel
theorem dX2_pointOnLine_10 : decode cX2_pointOnLine 10 = .ok (.getfield 100, 3) := by decide +kernel
theorem dX2_pointOnLine_13 : decode cX2_pointOnLine 13 = .ok (.ineg, 1) := by decide +kernel
theorem dX2_pointOnLine_14 : decode cX2_pointOnLine 14 = .ok (.iload_n 3, 1) := by decide +kernel
theorem dX2_pointOnLine_15 : decode cX2_pointOnLine 15 = .ok (.invokevirtual 37, 3) := by decide +kernel
theorem dX2_pointOnLine_18 : decode cX2_pointOnLine 18 = .ok (.ireturn, 1) := by decide +kernel
theorem dX2_pointOnLine_19 : decode cX2_pointOnLine 19 = .ok (.aload_n 0, 1) := by decide +kernel
theorem dX2_pointOnLine_20 : decode cX2_pointOnLine 20 = .ok (.aload_n 1, 1) := by decide +kernel
theorem dX2_pointOnLine_21 : decode cX2_pointOnLine 21 = .ok (.iload_n 3, 1) := by decide +kernel
theorem dX2_pointOnLine_22 : decode cX2_pointOnLine 22 = .ok (.aload_n 0, 1) := by decide +kernel
theorem dX2_pointOnLine_23 : decode cX2_pointOnLine 23 = .ok (.getfield 12, 3) := by decide +kernel
theorem dX2_pointOnLine_26 : decode cX2_pointOnLine 26 = .ok (.aload_n 2, 1) := by decide +kernel
theorem dX2_pointOnLine_27 : decode cX2_pointOnLine 27 = .ok (.getfield 64, 3) := by decide +kernel
theorem dX2_pointOnLine_30 : decode cX2_pointOnLine 30 = .ok (.iload_n 3, 1) := by decide +kernel
theorem dX2_pointOnLine_31 : decode cX2_pointOnLine 31 = .ok (.imul, 1) := by decide +kernel
theorem dX2_pointOnLine_32 : decode cX2_pointOnLine 32 = .ok (.aload_n 2, 1) := by decide +kernel
theorem dX2_pointOnLine_33 : decode cX2_pointOnLine 33 = .ok (.getfield 100, 3) := by decide +kernel
theorem dX2_pointOnLine_36 : decode cX2_pointOnLine 36 = .ok (.iadd, 1) := by decide +kernel
theorem dX2_pointOnLine_37 : decode cX2_pointOnLine 37 = .ok (.ineg, 1) := by decide +kernel
theorem dX2_pointOnLine_38 : decode cX2_pointOnLine 38 = .ok (.aload_n 2, 1) := by decide +kernel
theorem dX2_pointOnLine_39 : decode cX2_pointOnLine 39 = .ok (.getfield 67, 3) := by decide +kernel
theorem dX2_pointOnLine_42 : decode cX2_pointOnLine 42 = .ok (.invokevirtual 103, 3) := by decide +kernel
theorem dX2_pointOnLine_45 : decode cX2_pointOnLine 45 = .ok (.invokevirtual 37, 3) := by decide +kernel
theorem dX2_pointOnLine_48 : decode cX2_pointOnLine 48 = .ok (.ireturn, 1) := by decide +kernel
set_option maxRecDepth 20000 in
theorem ggX2_intersection_X3_rest : GoodIn wsX2_intersection wsX3_rest := goodIn_r _ [9, 10, 11, 12, 13, 14, 53, 54, 55] rfl (by decide +kernel)
set_option maxRecDepth 20000 in
theorem gX2_intersection_X3_rest : GoodIn wsX2_intersection (wsV RX2 89 RX3 yX3_rest wsX3_rest) := goodIn_app (goodIn_of _ (by decide +kernel)) ggX2_intersection_X3_rest
set_option maxRecDepth 20000 in
theorem ggX2_intersection_X3_ratio : GoodIn wsX2_intersection wsX3_ratio := goodIn_r _ [18, 19, 6, 7, 8, 9, 10, 11, 12, 13, 14, 20, 21, 22, 23, 24, 53, 54, 55] rfl (by decide +kernel)
set_option maxRecDepth 20000 in
theorem gX2_intersection_X3_ratio : GoodIn wsX2_intersection (wsV RX2 103 RX3 yX3_ratio wsX3_ratio) := goodIn_app (goodIn_of _ (by decide +kernel)) ggX2_intersection_X3_ratio
set_option maxRecDepth 20000 in
theorem ggX2_intersection_X2_putPoint : GoodIn wsX2_intersection wsX2_putPoint := goodIn_r _ [29, 1, 5, 6, 7, 8, 9, 10, 11, 12, 13, 14, 30, 31, 32, 33, 34, 35, 36, 37, 38, 39, 53, 54, 55, 40, 41, 42, 43, 44, 45, 46, 47, 48, 49, 50, 51, 52] rfl (by decide +kernel)
set_option maxRecDepth 20000 in
theorem gX2_intersection_X2_putPoint : GoodIn wsX2_intersection (wsV RX2 37 RX2 yX2_putPoint wsX2_putPoint) := goodIn_app (goodIn_of _ (by decide +kernel)) ggX2_intersection_X2_putPoint
theorem dX2_intersection_0 : decode cX2_intersection 0 = .ok (.aload_n 0, 1) := by decide +kernel
theorem dX2_intersection_1 : decode cX2_intersection 1 = .ok (.getfield 12, 3) := by decide +kernel
theorem dX2_intersection_4 : decode cX2_intersection 4 = .ok (.aload_n 2, 1) := by decide +kernel
theorem dX2_intersection_5 : decode cX2_intersection 5 = .ok (.getfield 64, 3) := by decide +kernel
theorem dX2_intersection_8 : decode cX2_intersection 8 = .ok (.aload_n 3, 1) := by decide +kernel
theorem dX2_intersection_9 : decode cX2_intersection 9 = .ok (.getfield 67, 3) := by decide +kernel
theorem dX2_intersection_12 : decode cX2_intersection 12 = .ok (.imul, 1) := by decide +kernel
theorem dX2_intersection_13 : decode cX2_intersection 13 = .ok (.aload_n 3, 1) := by decide +kernel
theorem dX2_intersection_14 : decode cX2_intersection 14 = .ok (.getfield 64, 3) := by decide +kernel
theorem dX2_intersection_17 : decode cX2_intersection 17 = .ok (.aload_n 2, 1) := by decide +kernel
theorem dX2_intersection_18 : decode cX2_intersection 18 = .ok (.getfield 67, 3) := by decide +kernel
theorem dX2_intersection_21 : decode cX2_intersection 21 = .ok (.imul, 1) := by decide +kernel
theorem dX2_intersection_22 : decode cX2_intersection 22 = .ok (.isub, 1) := by decide +kernel
theorem dX2_intersection_23 : decode cX2_intersection 23 = .ok (.invokevirtual 89, 3) := by decide +kernel
theorem dX2_intersection_26 : decode cX2_intersection 26 = .ok (.istore 4, 2) := by decide +kernel
theorem dX2_intersection_28 : decode cX2_intersection 28 = .ok (.iload 4, 2) := by decide +kernel
theorem dX2_intersection_30 : decode cX2_intersection 30 = .ok (.ifCond .ne 5, 3) := by decide +kernel
theorem dX2_intersection_33 : decode cX2_intersection 33 = .ok (.iconst 0, 1) := by decide +kernel
theorem dX2_intersection_34 : decode cX2_intersection 34 = .ok (.ireturn, 1) := by decide +kernel
theorem dX2_intersection_35 : decode cX2_intersection 35 = .ok (.aload_n 0, 1) := by decide +kernel
theorem dX2_intersection_36 : decode cX2_intersection 36 = .ok (.aload_n 1, 1) := by decide +kernel
theorem dX2_intersection_37 : decode cX2_intersection 37 = .ok (.aload_n 0, 1) := by decide +kernel
theorem dX2_intersection_38 : decode cX2_intersection 38 = .ok (.getfield 12, 3) := by decide +kernel
theorem dX2_intersection_41 : decode cX2_intersection 41 = .ok (.aload_n 2, 1) := by decide +kernel
theorem dX2_intersection_42 : decode cX2_intersection 42 = .ok (.getfield 67, 3) := by decide +kernel
theorem dX2_intersection_45 : decode cX2_intersection 45 = .ok (.aload_n 3, 1) := by decide +kernel
theorem dX2_intersection_46 : decode cX2_intersection 46 = .ok (.getfield 100, 3) := by decide +kernel
theorem dX2_intersection_49 : decode cX2_intersection 49 = .ok (.imul, 1) := by decide +kernel
theorem dX2_intersection_50 : decode cX2_intersection 50 = .ok (.aload_n 3, 1) := by decide +kernel
theorem dX2_intersection_51 : decode cX2_intersection 51 = .ok (.getfield 67, 3) := by decide +kernel
theorem dX2_intersection_54 : decode cX2_intersection 54 = .ok (.aload_n 2, 1) := by decide +kernel
theorem dX2_intersection_55 : decode cX2_intersection 55 = .ok (.getfield 100, 3) := by decide +kernel
theorem dX2_intersection_58 : decode cX2_intersection 58 = .ok (.imul, 1) := by decide +kernel
theorem dX2_intersection_59 : decode cX2_intersection 59 = .ok (.isub, 1) := by decide +kernel
theorem dX2_intersection_60 : decode cX2_intersection 60 = .ok (.iload 4, 2) := by decide +kernel
theorem dX2_intersection_62 : decode cX2_intersection 62 = .ok (.invokevirtual 103, 3) := by decide +kernel
theorem dX2_intersection_65 : decode cX2_intersection 65 = .ok (.aload_n 0, 1) := by decide +kernel
theorem dX2_intersection_66 : decode cX2_intersection 66 = .ok (.getfield 12, 3) := by decide +kernel
theorem dX2_intersection_69 : decode cX2_intersection 69 = .ok (.aload_n 3, 1) := by decide +kernel
theorem dX2_intersection_70 : decode cX2_intersection 70 = .ok (.getfield 64, 3) := by decide +kernel
