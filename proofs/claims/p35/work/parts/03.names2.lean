def wsL_line_r2 : List Cond := [Cond.code yX7_isWithin cX7_isWithin 3 (some .boolean), Cond.methodLink RX7 36 yX7_isRank, Cond.static yX7_isRank, Cond.code yX7_isRank cX7_isRank 1 (some .boolean), Cond.methodLink RX7 39 yX7_isWord, Cond.static yX7_isWord, Cond.code yX7_isWord cX7_isWord 1 (some .boolean), Cond.methodLink RX7 53 yJx4a65c_size_8abf5, Cond.instanceMethod yJx4a65c_size_8abf5, Cond.selects RJx4a65c yJx4a65c_size_8abf5 yJx4a65c_size_8abf5, Cond.initialized RJx4a65c, Cond.code yJx4a65c_size_8abf5 cJx4a65c_size_8abf5 1 (some .int), Cond.fieldLink RJx4a65c 48 "java/util/ArrayList" "size" "I", Cond.instanceMethod yX6_init, Cond.code yX6_init cX6_init 4 none, Cond.methodLink RX6 3 objectInit, Cond.instanceMethod objectInit, Cond.code objectInit ⟨#[0xb1]⟩ 1 none, Cond.fieldLink RX6 9 "LogWeave$Words" "first" "I", Cond.fieldLink RX6 15 "LogWeave$Words" "second" "I", Cond.fieldLink RX6 18 "LogWeave$Words" "third" "I", Cond.methodLink RX7 67 yX7_patternFor, Cond.instanceMethod yX7_patternFor, Cond.selects RX7 yX7_patternFor yX7_patternFor]
def wsL_line_r3 : List Cond := [Cond.code yX7_patternFor cX7_patternFor 5 (some (.object "LogWeave$Pattern")), Cond.fieldLink RX7 16 "LogWeave" "patternList" "Ljava/util/ArrayList;", Cond.classLink RX7 112 "LogWeave$Pattern", Cond.methodLink RX7 120 yJx4a65c_get_915e3, Cond.instanceMethod yJx4a65c_get_915e3, Cond.selects RJx4a65c yJx4a65c_get_915e3 yJx4a65c_get_915e3, Cond.code yJx4a65c_get_915e3 cJx4a65c_get_915e3 2 (some (.object "java/lang/Object")), Cond.methodLink RJx4a65c 118 yJ15_checkIndex_7cf53, Cond.static yJ15_checkIndex_7cf53, Cond.initialized RJ15, Cond.code yJ15_checkIndex_7cf53 cJ15_checkIndex_7cf53 2 (some .int), Cond.methodLink RJ15 105 yJ3_checkIndex_8e157, Cond.static yJ3_checkIndex_8e157, Cond.initialized RJ3, Cond.code yJ3_checkIndex_8e157 cJ3_checkIndex_8e157 3 (some .int), Cond.methodLink RJx4a65c 123 yJx4a65c_elementData_915e3, Cond.instanceMethod yJx4a65c_elementData_915e3, Cond.selects RJx4a65c yJx4a65c_elementData_915e3 yJx4a65c_elementData_915e3, Cond.code yJx4a65c_elementData_915e3 cJx4a65c_elementData_915e3 2 (some (.object "java/lang/Object")), Cond.fieldLink RJx4a65c 9 "java/util/ArrayList" "elementData" "[Ljava/lang/Object;", Cond.instanceMethod yX4_suits, Cond.initialized RX4, Cond.selects RX4 yX4_suits yX4_suits, Cond.code yX4_suits cX4_suits 4 (some .boolean)]
def wsL_line_r4 : List Cond := [Cond.fieldLink RX4 15 "LogWeave$Pattern" "source" "I", Cond.fieldLink RX4 18 "LogWeave$Pattern" "words" "LLogWeave$Words;", Cond.instanceMethod yX6_at, Cond.selects RX6 yX6_at yX6_at, Cond.code yX6_at cX6_at 2 (some .int), Cond.methodLink RX7 71 yX7_learn, Cond.instanceMethod yX7_learn, Cond.selects RX7 yX7_learn yX7_learn, Cond.code yX7_learn cX7_learn 5 (some (.object "LogWeave$Pattern")), Cond.classLink RX7 112 RX4, Cond.instantiable RX4 4, Cond.instanceMethod yX4_init, Cond.code yX4_init cX4_init 4 none, Cond.methodLink RX4 3 objectInit, Cond.fieldLink RX4 9 "LogWeave$Pattern" "number" "I", Cond.methodLink RX7 83 yJx4a65c_add_9ea2d, Cond.instanceMethod yJx4a65c_add_9ea2d, Cond.selects RJx4a65c yJx4a65c_add_9ea2d yJx4a65c_add_9ea2d, Cond.code yJx4a65c_add_9ea2d cJx4a65c_add_9ea2d 2 (some .boolean), Cond.fieldLink RJx4a65c 63 "java/util/ArrayList" "modCount" "I", Cond.sameField "java/util/ArrayList" "java/util/AbstractList" "modCount" "I", Cond.methodLink RJx4a65c 131 yJx4a65c_add_72be8, Cond.instanceMethod yJx4a65c_add_72be8, Cond.selects RJx4a65c yJx4a65c_add_72be8 yJx4a65c_add_72be8]
def wsL_line_r5 : List Cond := [Cond.code yJx4a65c_add_72be8 cJx4a65c_add_72be8 4 none, Cond.methodLink RJx4a65c 129 yJx4a65c_grow_d5877, Cond.instanceMethod yJx4a65c_grow_d5877, Cond.selects RJx4a65c yJx4a65c_grow_d5877 yJx4a65c_grow_d5877, Cond.code yJx4a65c_grow_d5877 cJx4a65c_grow_d5877 1 (some (.array (.object "java/lang/Object"))), Cond.methodLink RJx4a65c 69 yJx4a65c_grow_92f84, Cond.instanceMethod yJx4a65c_grow_92f84, Cond.selects RJx4a65c yJx4a65c_grow_92f84 yJx4a65c_grow_92f84, Cond.code yJx4a65c_grow_92f84 cJx4a65c_grow_92f84 4 (some (.array (.object "java/lang/Object"))), Cond.fieldLink RJx4a65c 39 "java/util/ArrayList" "DEFAULTCAPACITY_EMPTY_ELEMENTDATA" "[Ljava/lang/Object;", Cond.methodLink RJx4a65c 79 Lib.Math.max.name, Cond.static Lib.Math.max.name, Cond.initialized "java/lang/Math", Cond.code Lib.Math.max.name Lib.Math.max.code 2 (some .int), Cond.classLink RJx4a65c 7 "java/lang/Object", Cond.methodLink RJx4a65c 73 yJ8_newLength_cabcc, Cond.static yJ8_newLength_cabcc, Cond.initialized RJ8, Cond.code yJ8_newLength_cabcc cJ8_newLength_cabcc 4 (some .int), Cond.methodLink RJ8 194 Lib.Math.max.name, Cond.constant RJ8 200 (2147483639), Cond.methodLink RJ8 201 yJ8_hugeLength_7cf53, Cond.static yJ8_hugeLength_7cf53, Cond.code yJ8_hugeLength_7cf53 cJ8_hugeLength_7cf53 3 (some .int)]
def wsL_line_r6 : List Cond := [Cond.methodLink RJx4a65c 66 yJ7_copyOf_1904c, Cond.static yJ7_copyOf_1904c, Cond.initialized RJ7, Cond.code yJ7_copyOf_1904c cJ7_copyOf_1904c 2 (some (.array (.object "java/lang/Object"))), Cond.methodLink RJ7 86 ⟨"java/lang/Object", "getClass", "()Ljava/lang/Class;"⟩, Cond.selects "[Ljava/lang/Object;" ⟨"java/lang/Object", "getClass", "()Ljava/lang/Class;"⟩ ⟨"java/lang/Object", "getClass", "()Ljava/lang/Class;"⟩, Cond.instanceMethod ⟨"java/lang/Object", "getClass", "()Ljava/lang/Class;"⟩, Cond.native ⟨"java/lang/Object", "getClass", "()Ljava/lang/Class;"⟩, Cond.methodLink RJ7 300 yJ7_copyOf_6403c, Cond.static yJ7_copyOf_6403c, Cond.code yJ7_copyOf_6403c cJ7_copyOf_6403c 4 (some (.array (.object "java/lang/Object"))), Cond.classLink RJ7 110 "[Ljava/lang/Object;", Cond.classLink RJ7 2 "java/lang/Object", Cond.methodLink RJ7 304 Lib.Math.min.name, Cond.static Lib.Math.min.name, Cond.code Lib.Math.min.name Lib.Math.min.code 2 (some .int), Cond.methodLink RJ7 150 arraycopyName, Cond.native arraycopyName, Cond.static arraycopyName, Cond.initialized "java/lang/System", Cond.instanceMethod yX3_init, Cond.code yX3_init cX3_init 7 none, Cond.methodLink RX3 3 objectInit, Cond.fieldLink RX3 9 "LogWeave$Line" "state" "C"]
def wsL_line_r7 : List Cond := [Cond.fieldLink RX3 15 "LogWeave$Line" "source" "I", Cond.fieldLink RX3 19 "LogWeave$Line" "rank" "I", Cond.fieldLink RX3 22 "LogWeave$Line" "words" "LLogWeave$Words;", Cond.fieldLink RX3 26 "LogWeave$Line" "bytes" "I", Cond.fieldLink RX3 29 "LogWeave$Line" "came" "I", Cond.fieldLink RX3 32 "LogWeave$Line" "pattern" "LLogWeave$Pattern;", Cond.methodLink RX7 87 yX7_mergeFrom, Cond.instanceMethod yX7_mergeFrom, Cond.selects RX7 yX7_mergeFrom yX7_mergeFrom, Cond.code yX7_mergeFrom cX7_mergeFrom 5 none, Cond.methodLink RX7 329 yX7_partnerOf, Cond.instanceMethod yX7_partnerOf, Cond.selects RX7 yX7_partnerOf yX7_partnerOf, Cond.code yX7_partnerOf cX7_partnerOf 4 (some (.object "LogWeave$Pattern")), Cond.instanceMethod yX6_differences, Cond.selects RX6 yX6_differences yX6_differences, Cond.code yX6_differences cX6_differences 4 (some .int), Cond.methodLink RX6 21 yX6_at, Cond.methodLink RX7 333 yX7_merge, Cond.instanceMethod yX7_merge, Cond.selects RX7 yX7_merge yX7_merge, Cond.code yX7_merge cX7_merge 5 none, Cond.classLink RX7 74 "LogWeave$Line", Cond.instanceMethod yX6_put]
def wsL_line_r8 : List Cond := [Cond.selects RX6 yX6_put yX6_put, Cond.code yX6_put cX6_put 3 none, Cond.methodLink RX7 91 yX7_showToAlerts, Cond.instanceMethod yX7_showToAlerts, Cond.selects RX7 yX7_showToAlerts yX7_showToAlerts, Cond.code yX7_showToAlerts cX7_showToAlerts 4 none, Cond.fieldLink RX7 19 "LogWeave" "alertList" "Ljava/util/ArrayList;", Cond.classLink RX7 195 "LogWeave$Alert", Cond.methodLink RX7 200 yX7_countIfDue, Cond.instanceMethod yX7_countIfDue, Cond.selects RX7 yX7_countIfDue yX7_countIfDue, Cond.code yX7_countIfDue cX7_countIfDue 3 none, Cond.instanceMethod yX0_counts, Cond.initialized RX0, Cond.selects RX0 yX0_counts yX0_counts, Cond.code yX0_counts cX0_counts 3 (some .boolean), Cond.fieldLink RX0 26 "LogWeave$Alert" "window" "I", Cond.fieldLink RX0 19 "LogWeave$Alert" "filter" "LLogWeave$Filter;", Cond.instanceMethod yX3_cameWithin, Cond.selects RX3 yX3_cameWithin yX3_cameWithin, Cond.code yX3_cameWithin cX3_cameWithin 3 (some .boolean), Cond.instanceMethod yX1_takes, Cond.initialized RX1, Cond.selects RX1 yX1_takes yX1_takes]
def wsL_line_r9 : List Cond := [Cond.code yX1_takes cX1_takes 2 (some .boolean), Cond.fieldLink RX1 9 "LogWeave$Filter" "source" "I", Cond.fieldLink RX1 15 "LogWeave$Filter" "leastRank" "I", Cond.fieldLink RX1 18 "LogWeave$Filter" "place" "I", Cond.fieldLink RX1 21 "LogWeave$Filter" "word" "I", Cond.methodLink RX7 204 yX7_lookAtAlert, Cond.instanceMethod yX7_lookAtAlert, Cond.selects RX7 yX7_lookAtAlert yX7_lookAtAlert, Cond.code yX7_lookAtAlert cX7_lookAtAlert 2 none, Cond.classLink RX7 228 RX2, Cond.instantiable RX2 5, Cond.initialized RX2, Cond.fieldLink RX7 22 "LogWeave" "firingList" "Ljava/util/ArrayList;", Cond.instanceMethod yX2_init, Cond.code yX2_init cX2_init 3 none, Cond.methodLink RX2 3 objectInit, Cond.arrayClass .long, Cond.fieldLink RX2 9 "LogWeave$Firing" "onLines" "[J", Cond.fieldLink RX2 15 "LogWeave$Firing" "alert" "LLogWeave$Alert;", Cond.fieldLink RX2 19 "LogWeave$Firing" "began" "I", Cond.methodLink RX7 355 yX7_standOnCounted, Cond.instanceMethod yX7_standOnCounted, Cond.selects RX7 yX7_standOnCounted yX7_standOnCounted, Cond.code yX7_standOnCounted cX7_standOnCounted 5 none]
def wsL_line_r10 : List Cond := [Cond.instanceMethod yX2_hasLine, Cond.selects RX2 yX2_hasLine yX2_hasLine, Cond.code yX2_hasLine cX2_hasLine 2 (some .boolean), Cond.instanceMethod yX2_putLine, Cond.selects RX2 yX2_putLine yX2_putLine, Cond.code yX2_putLine cX2_putLine 2 none, Cond.fieldLink RX2 27 "LogWeave$Firing" "size" "I", Cond.methodLink RX2 23 yX2_hasLine, Cond.methodLink RX7 95 yX7_lookAtSource, Cond.instanceMethod yX7_lookAtSource, Cond.selects RX7 yX7_lookAtSource yX7_lookAtSource, Cond.code yX7_lookAtSource cX7_lookAtSource 5 (some .int), Cond.fieldLink RX7 28 "LogWeave" "budgets" "[I", Cond.methodLink RX7 154 yX7_keptBytes, Cond.instanceMethod yX7_keptBytes, Cond.selects RX7 yX7_keptBytes yX7_keptBytes, Cond.code yX7_keptBytes cX7_keptBytes 5 (some .int), Cond.methodLink RX7 374 yX7_nextToDrop, Cond.instanceMethod yX7_nextToDrop, Cond.selects RX7 yX7_nextToDrop yX7_nextToDrop, Cond.code yX7_nextToDrop cX7_nextToDrop 5 (some (.object "LogWeave$Line"))]
def wsL_line : List Cond := .codeWith yL_line cL_line 8 (some .int) [(0, 13, 14, 21), (0, 13, 20, 23)] :: ((wsL_line_r1 ++ (wsL_line_r2 ++ (wsL_line_r3 ++ (wsL_line_r4 ++ (wsL_line_r5 ++ (wsL_line_r6 ++ (wsL_line_r7 ++ (wsL_line_r8 ++ (wsL_line_r9 ++ wsL_line_r10))))))))) ++ wsX70 ++ wsX60 ++ wsX30 ++ wsJx4a65c0 ++ wsX40 ++ wsX00 ++ wsX10 ++ wsX20 ++ (vx_atS RX7 50 "java/lang/IllegalArgumentException" ["java/lang/RuntimeException", "java/lang/Exception"]).filter goodWord ++ (vx_atS RX7 61 "java/lang/IllegalStateException" ["java/lang/RuntimeException", "java/lang/Exception"]).filter goodWord ++ (vx_atM "java/lang/ArrayIndexOutOfBoundsException" ["java/lang/IndexOutOfBoundsException", "java/lang/RuntimeException", "java/lang/Exception"]).filter goodWord)
def wsL_alert_r1 : List Cond := [Cond.classLink RL 21 "java/lang/IllegalArgumentException", Cond.classLink RL 23 "java/lang/IllegalStateException", Cond.methodLink RL 25 yX7_addAlert, Cond.instanceMethod yX7_addAlert, Cond.selects RX7 yX7_addAlert yX7_addAlert, Cond.initialized RX7, Cond.code yX7_addAlert cX7_addAlert 11 (some .int), Cond.classLink RX7 46 "java/lang/IllegalArgumentException", Cond.initialized "java/lang/IllegalArgumentException", Cond.classLink RX7 57 "java/lang/IllegalStateException", Cond.initialized "java/lang/IllegalStateException", Cond.fieldLink RX7 19 "LogWeave" "alertList" "Ljava/util/ArrayList;", Cond.classLink RX7 195 RX0, Cond.instantiable RX0 9, Cond.initialized RX0, Cond.classLink RX7 164 RX1, Cond.instantiable RX1 4, Cond.initialized RX1, Cond.fieldLink RX7 10 "LogWeave" "lineList" "Ljava/util/ArrayList;", Cond.classLink RX7 74 "LogWeave$Line", Cond.methodLink RX7 32 yX7_isSource, Cond.static yX7_isSource, Cond.code yX7_isSource cX7_isSource 1 (some .boolean), Cond.methodLink RX7 42 yX7_isWithin]
def wsL_alert_r2 : List Cond := [Cond.static yX7_isWithin, Cond.code yX7_isWithin cX7_isWithin 3 (some .boolean), Cond.methodLink RX7 36 yX7_isRank, Cond.static yX7_isRank, Cond.code yX7_isRank cX7_isRank 1 (some .boolean), Cond.methodLink RX7 39 yX7_isWord, Cond.static yX7_isWord, Cond.code yX7_isWord cX7_isWord 1 (some .boolean), Cond.methodLink RX7 53 yJx4a65c_size_8abf5, Cond.instanceMethod yJx4a65c_size_8abf5, Cond.selects RJx4a65c yJx4a65c_size_8abf5 yJx4a65c_size_8abf5, Cond.initialized RJx4a65c, Cond.code yJx4a65c_size_8abf5 cJx4a65c_size_8abf5 1 (some .int), Cond.fieldLink RJx4a65c 48 "java/util/ArrayList" "size" "I", Cond.instanceMethod yX1_init, Cond.code yX1_init cX1_init 5 none, Cond.methodLink RX1 3 objectInit, Cond.instanceMethod objectInit, Cond.code objectInit ⟨#[0xb1]⟩ 1 none, Cond.fieldLink RX1 9 "LogWeave$Filter" "source" "I", Cond.fieldLink RX1 15 "LogWeave$Filter" "leastRank" "I", Cond.fieldLink RX1 18 "LogWeave$Filter" "place" "I", Cond.fieldLink RX1 21 "LogWeave$Filter" "word" "I", Cond.instanceMethod yX0_init]
def wsL_alert_r3 : List Cond := [Cond.code yX0_init cX0_init 6 none, Cond.methodLink RX0 3 objectInit, Cond.fieldLink RX0 9 "LogWeave$Alert" "state" "C", Cond.fieldLink RX0 15 "LogWeave$Alert" "number" "I", Cond.fieldLink RX0 19 "LogWeave$Alert" "filter" "LLogWeave$Filter;", Cond.fieldLink RX0 23 "LogWeave$Alert" "goal" "I", Cond.fieldLink RX0 26 "LogWeave$Alert" "window" "I", Cond.fieldLink RX0 29 "LogWeave$Alert" "hold" "I", Cond.methodLink RX7 83 yJx4a65c_add_9ea2d, Cond.instanceMethod yJx4a65c_add_9ea2d, Cond.selects RJx4a65c yJx4a65c_add_9ea2d yJx4a65c_add_9ea2d, Cond.code yJx4a65c_add_9ea2d cJx4a65c_add_9ea2d 2 (some .boolean), Cond.fieldLink RJx4a65c 63 "java/util/ArrayList" "modCount" "I", Cond.sameField "java/util/ArrayList" "java/util/AbstractList" "modCount" "I", Cond.fieldLink RJx4a65c 9 "java/util/ArrayList" "elementData" "[Ljava/lang/Object;", Cond.methodLink RJx4a65c 131 yJx4a65c_add_72be8, Cond.instanceMethod yJx4a65c_add_72be8, Cond.selects RJx4a65c yJx4a65c_add_72be8 yJx4a65c_add_72be8, Cond.code yJx4a65c_add_72be8 cJx4a65c_add_72be8 4 none, Cond.methodLink RJx4a65c 129 yJx4a65c_grow_d5877, Cond.instanceMethod yJx4a65c_grow_d5877, Cond.selects RJx4a65c yJx4a65c_grow_d5877 yJx4a65c_grow_d5877, Cond.code yJx4a65c_grow_d5877 cJx4a65c_grow_d5877 1 (some (.array (.object "java/lang/Object"))), Cond.methodLink RJx4a65c 69 yJx4a65c_grow_92f84]
def wsL_alert_r4 : List Cond := [Cond.instanceMethod yJx4a65c_grow_92f84, Cond.selects RJx4a65c yJx4a65c_grow_92f84 yJx4a65c_grow_92f84, Cond.code yJx4a65c_grow_92f84 cJx4a65c_grow_92f84 4 (some (.array (.object "java/lang/Object"))), Cond.fieldLink RJx4a65c 39 "java/util/ArrayList" "DEFAULTCAPACITY_EMPTY_ELEMENTDATA" "[Ljava/lang/Object;", Cond.methodLink RJx4a65c 79 Lib.Math.max.name, Cond.static Lib.Math.max.name, Cond.initialized "java/lang/Math", Cond.code Lib.Math.max.name Lib.Math.max.code 2 (some .int), Cond.classLink RJx4a65c 7 "java/lang/Object", Cond.methodLink RJx4a65c 73 yJ8_newLength_cabcc, Cond.static yJ8_newLength_cabcc, Cond.initialized RJ8, Cond.code yJ8_newLength_cabcc cJ8_newLength_cabcc 4 (some .int), Cond.methodLink RJ8 194 Lib.Math.max.name, Cond.constant RJ8 200 (2147483639), Cond.methodLink RJ8 201 yJ8_hugeLength_7cf53, Cond.static yJ8_hugeLength_7cf53, Cond.code yJ8_hugeLength_7cf53 cJ8_hugeLength_7cf53 3 (some .int), Cond.methodLink RJx4a65c 66 yJ7_copyOf_1904c, Cond.static yJ7_copyOf_1904c, Cond.initialized RJ7, Cond.code yJ7_copyOf_1904c cJ7_copyOf_1904c 2 (some (.array (.object "java/lang/Object"))), Cond.methodLink RJ7 86 ⟨"java/lang/Object", "getClass", "()Ljava/lang/Class;"⟩, Cond.selects "[Ljava/lang/Object;" ⟨"java/lang/Object", "getClass", "()Ljava/lang/Class;"⟩ ⟨"java/lang/Object", "getClass", "()Ljava/lang/Class;"⟩]
def wsL_alert_r5 : List Cond := [Cond.instanceMethod ⟨"java/lang/Object", "getClass", "()Ljava/lang/Class;"⟩, Cond.native ⟨"java/lang/Object", "getClass", "()Ljava/lang/Class;"⟩, Cond.methodLink RJ7 300 yJ7_copyOf_6403c, Cond.static yJ7_copyOf_6403c, Cond.code yJ7_copyOf_6403c cJ7_copyOf_6403c 4 (some (.array (.object "java/lang/Object"))), Cond.classLink RJ7 110 "[Ljava/lang/Object;", Cond.classLink RJ7 2 "java/lang/Object", Cond.methodLink RJ7 304 Lib.Math.min.name, Cond.static Lib.Math.min.name, Cond.code Lib.Math.min.name Lib.Math.min.code 2 (some .int), Cond.methodLink RJ7 150 arraycopyName, Cond.native arraycopyName, Cond.static arraycopyName, Cond.initialized "java/lang/System", Cond.methodLink RX7 120 yJx4a65c_get_915e3, Cond.instanceMethod yJx4a65c_get_915e3, Cond.selects RJx4a65c yJx4a65c_get_915e3 yJx4a65c_get_915e3, Cond.code yJx4a65c_get_915e3 cJx4a65c_get_915e3 2 (some (.object "java/lang/Object")), Cond.methodLink RJx4a65c 118 yJ15_checkIndex_7cf53, Cond.static yJ15_checkIndex_7cf53, Cond.initialized RJ15, Cond.code yJ15_checkIndex_7cf53 cJ15_checkIndex_7cf53 2 (some .int), Cond.methodLink RJ15 105 yJ3_checkIndex_8e157, Cond.static yJ3_checkIndex_8e157]
def wsL_alert_r6 : List Cond := [Cond.initialized RJ3, Cond.code yJ3_checkIndex_8e157 cJ3_checkIndex_8e157 3 (some .int), Cond.methodLink RJx4a65c 123 yJx4a65c_elementData_915e3, Cond.instanceMethod yJx4a65c_elementData_915e3, Cond.selects RJx4a65c yJx4a65c_elementData_915e3 yJx4a65c_elementData_915e3, Cond.code yJx4a65c_elementData_915e3 cJx4a65c_elementData_915e3 2 (some (.object "java/lang/Object")), Cond.methodLink RX7 200 yX7_countIfDue, Cond.instanceMethod yX7_countIfDue, Cond.selects RX7 yX7_countIfDue yX7_countIfDue, Cond.code yX7_countIfDue cX7_countIfDue 3 none, Cond.fieldLink RX7 76 "LogWeave" "now" "I", Cond.instanceMethod yX0_counts, Cond.selects RX0 yX0_counts yX0_counts, Cond.code yX0_counts cX0_counts 3 (some .boolean), Cond.instanceMethod yX3_cameWithin, Cond.initialized RX3, Cond.selects RX3 yX3_cameWithin yX3_cameWithin, Cond.code yX3_cameWithin cX3_cameWithin 3 (some .boolean), Cond.fieldLink RX3 29 "LogWeave$Line" "came" "I", Cond.instanceMethod yX1_takes, Cond.selects RX1 yX1_takes yX1_takes, Cond.code yX1_takes cX1_takes 2 (some .boolean), Cond.instanceMethod yX6_at, Cond.initialized RX6]
def wsL_alert_r7 : List Cond := [Cond.selects RX6 yX6_at yX6_at, Cond.code yX6_at cX6_at 2 (some .int), Cond.fieldLink RX6 9 "LogWeave$Words" "first" "I", Cond.fieldLink RX6 15 "LogWeave$Words" "second" "I", Cond.fieldLink RX6 18 "LogWeave$Words" "third" "I", Cond.methodLink RX7 204 yX7_lookAtAlert, Cond.instanceMethod yX7_lookAtAlert, Cond.selects RX7 yX7_lookAtAlert yX7_lookAtAlert, Cond.code yX7_lookAtAlert cX7_lookAtAlert 2 none, Cond.classLink RX7 228 RX2, Cond.instantiable RX2 5, Cond.initialized RX2, Cond.fieldLink RX7 22 "LogWeave" "firingList" "Ljava/util/ArrayList;", Cond.instanceMethod yX2_init, Cond.code yX2_init cX2_init 3 none, Cond.methodLink RX2 3 objectInit, Cond.arrayClass .long, Cond.fieldLink RX2 9 "LogWeave$Firing" "onLines" "[J", Cond.fieldLink RX2 15 "LogWeave$Firing" "alert" "LLogWeave$Alert;", Cond.fieldLink RX2 19 "LogWeave$Firing" "began" "I", Cond.methodLink RX7 355 yX7_standOnCounted, Cond.instanceMethod yX7_standOnCounted, Cond.selects RX7 yX7_standOnCounted yX7_standOnCounted, Cond.code yX7_standOnCounted cX7_standOnCounted 5 none]
def wsL_alert_r8 : List Cond := [Cond.instanceMethod yX2_hasLine, Cond.selects RX2 yX2_hasLine yX2_hasLine, Cond.code yX2_hasLine cX2_hasLine 2 (some .boolean), Cond.instanceMethod yX2_putLine, Cond.selects RX2 yX2_putLine yX2_putLine, Cond.code yX2_putLine cX2_putLine 2 none, Cond.fieldLink RX2 27 "LogWeave$Firing" "size" "I", Cond.methodLink RX2 23 yX2_hasLine]
def wsL_alert : List Cond := .codeWith yL_alert cL_alert 4 (some .int) [(0, 38, 39, 21), (0, 38, 44, 23)] :: ((wsL_alert_r1 ++ (wsL_alert_r2 ++ (wsL_alert_r3 ++ (wsL_alert_r4 ++ (wsL_alert_r5 ++ (wsL_alert_r6 ++ (wsL_alert_r7 ++ wsL_alert_r8))))))) ++ wsX70 ++ wsX00 ++ wsX10 ++ wsJx4a65c0 ++ wsX30 ++ wsX60 ++ wsX20 ++ (vx_atM "java/lang/ArrayIndexOutOfBoundsException" ["java/lang/IndexOutOfBoundsException", "java/lang/RuntimeException", "java/lang/Exception"]).filter goodWord ++ (vx_atS RX7 50 "java/lang/IllegalArgumentException" ["java/lang/RuntimeException", "java/lang/Exception"]).filter goodWord ++ (vx_atS RX7 61 "java/lang/IllegalStateException" ["java/lang/RuntimeException", "java/lang/Exception"]).filter goodWord)
def wsL_plain_r1 : List Cond := [Cond.methodLink RL 29 yX7_setBudget, Cond.instanceMethod yX7_setBudget, Cond.selects RX7 yX7_setBudget yX7_setBudget, Cond.initialized RX7, Cond.code yX7_setBudget cX7_setBudget 3 (some .int), Cond.classLink RX7 46 "java/lang/IllegalArgumentException", Cond.initialized "java/lang/IllegalArgumentException", Cond.fieldLink RX7 28 "LogWeave" "budgets" "[I", Cond.methodLink RX7 116 yX7_checkSource, Cond.static yX7_checkSource, Cond.code yX7_checkSource cX7_checkSource 1 none, Cond.methodLink RX7 32 yX7_isSource, Cond.static yX7_isSource, Cond.code yX7_isSource cX7_isSource 1 (some .boolean), Cond.methodLink RX7 42 yX7_isWithin, Cond.static yX7_isWithin, Cond.code yX7_isWithin cX7_isWithin 3 (some .boolean), Cond.methodLink RX7 95 yX7_lookAtSource, Cond.instanceMethod yX7_lookAtSource, Cond.selects RX7 yX7_lookAtSource yX7_lookAtSource, Cond.code yX7_lookAtSource cX7_lookAtSource 5 (some .int), Cond.methodLink RX7 154 yX7_keptBytes, Cond.instanceMethod yX7_keptBytes, Cond.selects RX7 yX7_keptBytes yX7_keptBytes]
def wsL_plain_r2 : List Cond := [Cond.code yX7_keptBytes cX7_keptBytes 5 (some .int), Cond.fieldLink RX7 10 "LogWeave" "lineList" "Ljava/util/ArrayList;", Cond.classLink RX7 74 "LogWeave$Line", Cond.methodLink RX7 53 yJx4a65c_size_8abf5, Cond.instanceMethod yJx4a65c_size_8abf5, Cond.selects RJx4a65c yJx4a65c_size_8abf5 yJx4a65c_size_8abf5, Cond.initialized RJx4a65c, Cond.code yJx4a65c_size_8abf5 cJx4a65c_size_8abf5 1 (some .int), Cond.fieldLink RJx4a65c 48 "java/util/ArrayList" "size" "I", Cond.methodLink RX7 120 yJx4a65c_get_915e3, Cond.instanceMethod yJx4a65c_get_915e3, Cond.selects RJx4a65c yJx4a65c_get_915e3 yJx4a65c_get_915e3, Cond.code yJx4a65c_get_915e3 cJx4a65c_get_915e3 2 (some (.object "java/lang/Object")), Cond.methodLink RJx4a65c 118 yJ15_checkIndex_7cf53, Cond.static yJ15_checkIndex_7cf53, Cond.initialized RJ15, Cond.code yJ15_checkIndex_7cf53 cJ15_checkIndex_7cf53 2 (some .int), Cond.methodLink RJ15 105 yJ3_checkIndex_8e157, Cond.static yJ3_checkIndex_8e157, Cond.initialized RJ3, Cond.code yJ3_checkIndex_8e157 cJ3_checkIndex_8e157 3 (some .int), Cond.methodLink RJx4a65c 123 yJx4a65c_elementData_915e3, Cond.instanceMethod yJx4a65c_elementData_915e3, Cond.selects RJx4a65c yJx4a65c_elementData_915e3 yJx4a65c_elementData_915e3]
def wsL_plain_r3 : List Cond := [Cond.code yJx4a65c_elementData_915e3 cJx4a65c_elementData_915e3 2 (some (.object "java/lang/Object")), Cond.fieldLink RJx4a65c 9 "java/util/ArrayList" "elementData" "[Ljava/lang/Object;", Cond.methodLink RX7 374 yX7_nextToDrop, Cond.instanceMethod yX7_nextToDrop, Cond.selects RX7 yX7_nextToDrop yX7_nextToDrop, Cond.code yX7_nextToDrop cX7_nextToDrop 5 (some (.object "LogWeave$Line")), Cond.methodLink RL 33 yX7_archive, Cond.instanceMethod yX7_archive, Cond.selects RX7 yX7_archive yX7_archive, Cond.code yX7_archive cX7_archive 3 (some .int), Cond.classLink RX7 57 "java/lang/IllegalStateException", Cond.initialized "java/lang/IllegalStateException", Cond.methodLink RX7 99 yX7_lineNumbered, Cond.instanceMethod yX7_lineNumbered, Cond.selects RX7 yX7_lineNumbered yX7_lineNumbered, Cond.code yX7_lineNumbered cX7_lineNumbered 2 (some (.object "LogWeave$Line")), Cond.classLink RX7 178 "java/util/NoSuchElementException", Cond.initialized "java/util/NoSuchElementException", Cond.methodLink RL 37 yX7_request, Cond.instanceMethod yX7_request, Cond.selects RX7 yX7_request yX7_request, Cond.code yX7_request cX7_request 5 (some .int), Cond.fieldLink RX7 25 "LogWeave" "requestList" "Ljava/util/ArrayList;", Cond.classLink RX7 164 RX1]
def wsL_plain_r4 : List Cond := [Cond.instantiable RX1 4, Cond.initialized RX1, Cond.fieldLink RX7 76 "LogWeave" "now" "I", Cond.classLink RX7 173 RX5, Cond.instantiable RX5 4, Cond.initialized RX5, Cond.methodLink RX7 36 yX7_isRank, Cond.static yX7_isRank, Cond.code yX7_isRank cX7_isRank 1 (some .boolean), Cond.instanceMethod yX1_init, Cond.code yX1_init cX1_init 5 none, Cond.methodLink RX1 3 objectInit, Cond.instanceMethod objectInit, Cond.code objectInit ⟨#[0xb1]⟩ 1 none, Cond.fieldLink RX1 9 "LogWeave$Filter" "source" "I", Cond.fieldLink RX1 15 "LogWeave$Filter" "leastRank" "I", Cond.fieldLink RX1 18 "LogWeave$Filter" "place" "I", Cond.fieldLink RX1 21 "LogWeave$Filter" "word" "I", Cond.methodLink RX7 169 yX7_archivedLines, Cond.instanceMethod yX7_archivedLines, Cond.selects RX7 yX7_archivedLines yX7_archivedLines, Cond.code yX7_archivedLines cX7_archivedLines 5 (some .int), Cond.instanceMethod yX1_takes, Cond.selects RX1 yX1_takes yX1_takes]
def wsL_plain_r5 : List Cond := [Cond.code yX1_takes cX1_takes 2 (some .boolean), Cond.instanceMethod yX6_at, Cond.initialized RX6, Cond.selects RX6 yX6_at yX6_at, Cond.code yX6_at cX6_at 2 (some .int), Cond.fieldLink RX6 9 "LogWeave$Words" "first" "I", Cond.fieldLink RX6 15 "LogWeave$Words" "second" "I", Cond.fieldLink RX6 18 "LogWeave$Words" "third" "I", Cond.instanceMethod yX5_init, Cond.code yX5_init cX5_init 3 none, Cond.methodLink RX5 1 objectInit, Cond.fieldLink RX5 7 "LogWeave$Request" "filter" "LLogWeave$Filter;", Cond.fieldLink RX5 13 "LogWeave$Request" "due" "I", Cond.methodLink RX7 83 yJx4a65c_add_9ea2d, Cond.instanceMethod yJx4a65c_add_9ea2d, Cond.selects RJx4a65c yJx4a65c_add_9ea2d yJx4a65c_add_9ea2d, Cond.code yJx4a65c_add_9ea2d cJx4a65c_add_9ea2d 2 (some .boolean), Cond.fieldLink RJx4a65c 63 "java/util/ArrayList" "modCount" "I", Cond.sameField "java/util/ArrayList" "java/util/AbstractList" "modCount" "I", Cond.methodLink RJx4a65c 131 yJx4a65c_add_72be8, Cond.instanceMethod yJx4a65c_add_72be8, Cond.selects RJx4a65c yJx4a65c_add_72be8 yJx4a65c_add_72be8, Cond.code yJx4a65c_add_72be8 cJx4a65c_add_72be8 4 none, Cond.methodLink RJx4a65c 129 yJx4a65c_grow_d5877]
def wsL_plain_r6 : List Cond := [Cond.instanceMethod yJx4a65c_grow_d5877, Cond.selects RJx4a65c yJx4a65c_grow_d5877 yJx4a65c_grow_d5877, Cond.code yJx4a65c_grow_d5877 cJx4a65c_grow_d5877 1 (some (.array (.object "java/lang/Object"))), Cond.methodLink RJx4a65c 69 yJx4a65c_grow_92f84, Cond.instanceMethod yJx4a65c_grow_92f84, Cond.selects RJx4a65c yJx4a65c_grow_92f84 yJx4a65c_grow_92f84, Cond.code yJx4a65c_grow_92f84 cJx4a65c_grow_92f84 4 (some (.array (.object "java/lang/Object"))), Cond.fieldLink RJx4a65c 39 "java/util/ArrayList" "DEFAULTCAPACITY_EMPTY_ELEMENTDATA" "[Ljava/lang/Object;", Cond.methodLink RJx4a65c 79 Lib.Math.max.name, Cond.static Lib.Math.max.name, Cond.initialized "java/lang/Math", Cond.code Lib.Math.max.name Lib.Math.max.code 2 (some .int), Cond.classLink RJx4a65c 7 "java/lang/Object", Cond.methodLink RJx4a65c 73 yJ8_newLength_cabcc, Cond.static yJ8_newLength_cabcc, Cond.initialized RJ8, Cond.code yJ8_newLength_cabcc cJ8_newLength_cabcc 4 (some .int), Cond.methodLink RJ8 194 Lib.Math.max.name, Cond.constant RJ8 200 (2147483639), Cond.methodLink RJ8 201 yJ8_hugeLength_7cf53, Cond.static yJ8_hugeLength_7cf53, Cond.code yJ8_hugeLength_7cf53 cJ8_hugeLength_7cf53 3 (some .int), Cond.methodLink RJx4a65c 66 yJ7_copyOf_1904c, Cond.static yJ7_copyOf_1904c]
def wsL_plain_r7 : List Cond := [Cond.initialized RJ7, Cond.code yJ7_copyOf_1904c cJ7_copyOf_1904c 2 (some (.array (.object "java/lang/Object"))), Cond.methodLink RJ7 86 ⟨"java/lang/Object", "getClass", "()Ljava/lang/Class;"⟩, Cond.selects "[Ljava/lang/Object;" ⟨"java/lang/Object", "getClass", "()Ljava/lang/Class;"⟩ ⟨"java/lang/Object", "getClass", "()Ljava/lang/Class;"⟩, Cond.instanceMethod ⟨"java/lang/Object", "getClass", "()Ljava/lang/Class;"⟩, Cond.native ⟨"java/lang/Object", "getClass", "()Ljava/lang/Class;"⟩, Cond.methodLink RJ7 300 yJ7_copyOf_6403c, Cond.static yJ7_copyOf_6403c, Cond.code yJ7_copyOf_6403c cJ7_copyOf_6403c 4 (some (.array (.object "java/lang/Object"))), Cond.classLink RJ7 110 "[Ljava/lang/Object;", Cond.classLink RJ7 2 "java/lang/Object", Cond.methodLink RJ7 304 Lib.Math.min.name, Cond.static Lib.Math.min.name, Cond.code Lib.Math.min.name Lib.Math.min.code 2 (some .int), Cond.methodLink RJ7 150 arraycopyName, Cond.native arraycopyName, Cond.static arraycopyName, Cond.initialized "java/lang/System", Cond.methodLink RL 40 yX7_release, Cond.instanceMethod yX7_release, Cond.selects RX7 yX7_release yX7_release, Cond.code yX7_release cX7_release 3 (some .int), Cond.classLink RX7 251 "java/lang/UnsupportedOperationException", Cond.initialized "java/lang/UnsupportedOperationException"]
def wsL_plain_r8 : List Cond := [Cond.methodLink RX7 223 yX7_firingNumbered, Cond.instanceMethod yX7_firingNumbered, Cond.selects RX7 yX7_firingNumbered yX7_firingNumbered, Cond.code yX7_firingNumbered cX7_firingNumbered 2 (some (.object "LogWeave$Firing")), Cond.fieldLink RX7 22 "LogWeave" "firingList" "Ljava/util/ArrayList;", Cond.classLink RX7 228 "LogWeave$Firing", Cond.methodLink RX7 256 yX7_giveUpLines, Cond.instanceMethod yX7_giveUpLines, Cond.selects RX7 yX7_giveUpLines yX7_giveUpLines, Cond.code yX7_giveUpLines cX7_giveUpLines 3 none, Cond.instanceMethod yX2_hasLine, Cond.initialized RX2, Cond.selects RX2 yX2_hasLine yX2_hasLine, Cond.code yX2_hasLine cX2_hasLine 2 (some .boolean), Cond.fieldLink RX2 9 "LogWeave$Firing" "onLines" "[J", Cond.instanceMethod yX2_clearLines, Cond.selects RX2 yX2_clearLines yX2_clearLines, Cond.code yX2_clearLines cX2_clearLines 2 none, Cond.fieldLink RX2 27 "LogWeave$Firing" "size" "I", Cond.methodLink RX7 260 yX7_lookAtAllSources, Cond.instanceMethod yX7_lookAtAllSources, Cond.selects RX7 yX7_lookAtAllSources yX7_lookAtAllSources, Cond.code yX7_lookAtAllSources cX7_lookAtAllSources 3 (some .int), Cond.methodLink RL 43 yX7_pass]
def wsL_plain_r9 : List Cond := [Cond.instanceMethod yX7_pass, Cond.selects RX7 yX7_pass yX7_pass, Cond.code yX7_pass cX7_pass 4 (some .int), Cond.methodLink RX7 270 yX7_passOneTick, Cond.instanceMethod yX7_passOneTick, Cond.selects RX7 yX7_passOneTick yX7_passOneTick, Cond.code yX7_passOneTick cX7_passOneTick 3 (some .int), Cond.fieldLink RX7 19 "LogWeave" "alertList" "Ljava/util/ArrayList;", Cond.classLink RX7 195 "LogWeave$Alert", Cond.methodLink RX7 377 yX7_forgetLeavers, Cond.instanceMethod yX7_forgetLeavers, Cond.selects RX7 yX7_forgetLeavers yX7_forgetLeavers, Cond.code yX7_forgetLeavers cX7_forgetLeavers 5 none, Cond.instanceMethod yX0_shortenHold, Cond.initialized RX0, Cond.selects RX0 yX0_shortenHold yX0_shortenHold, Cond.code yX0_shortenHold cX0_shortenHold 1 none, Cond.fieldLink RX0 9 "LogWeave$Alert" "state" "C", Cond.fieldLink RX0 45 "LogWeave$Alert" "heldTicks" "I", Cond.methodLink RX7 204 yX7_lookAtAlert, Cond.instanceMethod yX7_lookAtAlert, Cond.selects RX7 yX7_lookAtAlert yX7_lookAtAlert, Cond.code yX7_lookAtAlert cX7_lookAtAlert 2 none, Cond.classLink RX7 228 RX2]
def wsL_plain_r10 : List Cond := [Cond.instantiable RX2 5, Cond.instanceMethod yX2_init, Cond.code yX2_init cX2_init 3 none, Cond.methodLink RX2 3 objectInit, Cond.arrayClass .long, Cond.fieldLink RX2 15 "LogWeave$Firing" "alert" "LLogWeave$Alert;", Cond.fieldLink RX2 19 "LogWeave$Firing" "began" "I", Cond.methodLink RX7 355 yX7_standOnCounted, Cond.instanceMethod yX7_standOnCounted, Cond.selects RX7 yX7_standOnCounted yX7_standOnCounted, Cond.code yX7_standOnCounted cX7_standOnCounted 5 none, Cond.instanceMethod yX3_cameWithin, Cond.initialized RX3, Cond.selects RX3 yX3_cameWithin yX3_cameWithin, Cond.code yX3_cameWithin cX3_cameWithin 3 (some .boolean), Cond.fieldLink RX3 29 "LogWeave$Line" "came" "I", Cond.instanceMethod yX0_counts, Cond.selects RX0 yX0_counts yX0_counts, Cond.code yX0_counts cX0_counts 3 (some .boolean), Cond.fieldLink RX0 26 "LogWeave$Alert" "window" "I", Cond.fieldLink RX0 19 "LogWeave$Alert" "filter" "LLogWeave$Filter;", Cond.instanceMethod yX2_putLine, Cond.selects RX2 yX2_putLine yX2_putLine, Cond.code yX2_putLine cX2_putLine 2 none]
def wsL_plain_r11 : List Cond := [Cond.methodLink RX2 23 yX2_hasLine, Cond.methodLink RX7 383 yX7_answerRequests, Cond.instanceMethod yX7_answerRequests, Cond.selects RX7 yX7_answerRequests yX7_answerRequests, Cond.code yX7_answerRequests cX7_answerRequests 3 none, Cond.classLink RX7 173 "LogWeave$Request"]
def wsL_plain : List Cond := .code yL_plain cL_plain 4 (some .int) :: ((wsL_plain_r1 ++ (wsL_plain_r2 ++ (wsL_plain_r3 ++ (wsL_plain_r4 ++ (wsL_plain_r5 ++ (wsL_plain_r6 ++ (wsL_plain_r7 ++ (wsL_plain_r8 ++ (wsL_plain_r9 ++ (wsL_plain_r10 ++ wsL_plain_r11)))))))))) ++ wsX70 ++ wsX30 ++ wsJx4a65c0 ++ wsX10 ++ wsX50 ++ wsX60 ++ wsX20 ++ wsX00 ++ (vx_atS RX7 50 "java/lang/IllegalArgumentException" ["java/lang/RuntimeException", "java/lang/Exception"]).filter goodWord ++ (vx_atM "java/lang/ArrayIndexOutOfBoundsException" ["java/lang/IndexOutOfBoundsException", "java/lang/RuntimeException", "java/lang/Exception"]).filter goodWord ++ (vx_atS RX7 61 "java/lang/IllegalStateException" ["java/lang/RuntimeException", "java/lang/Exception"]).filter goodWord ++ (vx_atS RX7 182 "java/util/NoSuchElementException" ["java/lang/RuntimeException", "java/lang/Exception"]).filter goodWord ++ (vx_atS RX7 255 "java/lang/UnsupportedOperationException" ["java/lang/RuntimeException", "java/lang/Exception"]).filter goodWord)
def wsL_deed_r1 : List Cond := [Cond.classLink RL 21 "java/lang/IllegalArgumentException", Cond.classLink RL 23 "java/lang/IllegalStateException", Cond.classLink RL 50 "java/lang/UnsupportedOperationException", Cond.classLink RL 52 "java/util/NoSuchElementException", Cond.methodLink RL 46 yL_plain, Cond.static yL_plain, Cond.initialized RL, Cond.code yL_plain cL_plain 4 (some .int), Cond.methodLink RL 29 yX7_setBudget, Cond.instanceMethod yX7_setBudget, Cond.selects RX7 yX7_setBudget yX7_setBudget, Cond.initialized RX7, Cond.code yX7_setBudget cX7_setBudget 3 (some .int), Cond.classLink RX7 46 "java/lang/IllegalArgumentException", Cond.initialized "java/lang/IllegalArgumentException", Cond.fieldLink RX7 28 "LogWeave" "budgets" "[I", Cond.methodLink RX7 116 yX7_checkSource, Cond.static yX7_checkSource, Cond.code yX7_checkSource cX7_checkSource 1 none, Cond.methodLink RX7 32 yX7_isSource, Cond.static yX7_isSource, Cond.code yX7_isSource cX7_isSource 1 (some .boolean), Cond.methodLink RX7 42 yX7_isWithin, Cond.static yX7_isWithin]
def wsL_deed_r2 : List Cond := [Cond.code yX7_isWithin cX7_isWithin 3 (some .boolean), Cond.methodLink RX7 95 yX7_lookAtSource, Cond.instanceMethod yX7_lookAtSource, Cond.selects RX7 yX7_lookAtSource yX7_lookAtSource, Cond.code yX7_lookAtSource cX7_lookAtSource 5 (some .int), Cond.methodLink RX7 154 yX7_keptBytes, Cond.instanceMethod yX7_keptBytes, Cond.selects RX7 yX7_keptBytes yX7_keptBytes, Cond.code yX7_keptBytes cX7_keptBytes 5 (some .int), Cond.fieldLink RX7 10 "LogWeave" "lineList" "Ljava/util/ArrayList;", Cond.classLink RX7 74 "LogWeave$Line", Cond.methodLink RX7 53 yJx4a65c_size_8abf5, Cond.instanceMethod yJx4a65c_size_8abf5, Cond.selects RJx4a65c yJx4a65c_size_8abf5 yJx4a65c_size_8abf5, Cond.initialized RJx4a65c, Cond.code yJx4a65c_size_8abf5 cJx4a65c_size_8abf5 1 (some .int), Cond.fieldLink RJx4a65c 48 "java/util/ArrayList" "size" "I", Cond.methodLink RX7 120 yJx4a65c_get_915e3, Cond.instanceMethod yJx4a65c_get_915e3, Cond.selects RJx4a65c yJx4a65c_get_915e3 yJx4a65c_get_915e3, Cond.code yJx4a65c_get_915e3 cJx4a65c_get_915e3 2 (some (.object "java/lang/Object")), Cond.methodLink RJx4a65c 118 yJ15_checkIndex_7cf53, Cond.static yJ15_checkIndex_7cf53, Cond.initialized RJ15]
def wsL_deed_r3 : List Cond := [Cond.code yJ15_checkIndex_7cf53 cJ15_checkIndex_7cf53 2 (some .int), Cond.methodLink RJ15 105 yJ3_checkIndex_8e157, Cond.static yJ3_checkIndex_8e157, Cond.initialized RJ3, Cond.code yJ3_checkIndex_8e157 cJ3_checkIndex_8e157 3 (some .int), Cond.methodLink RJx4a65c 123 yJx4a65c_elementData_915e3, Cond.instanceMethod yJx4a65c_elementData_915e3, Cond.selects RJx4a65c yJx4a65c_elementData_915e3 yJx4a65c_elementData_915e3, Cond.code yJx4a65c_elementData_915e3 cJx4a65c_elementData_915e3 2 (some (.object "java/lang/Object")), Cond.fieldLink RJx4a65c 9 "java/util/ArrayList" "elementData" "[Ljava/lang/Object;", Cond.methodLink RX7 374 yX7_nextToDrop, Cond.instanceMethod yX7_nextToDrop, Cond.selects RX7 yX7_nextToDrop yX7_nextToDrop, Cond.code yX7_nextToDrop cX7_nextToDrop 5 (some (.object "LogWeave$Line")), Cond.methodLink RL 33 yX7_archive, Cond.instanceMethod yX7_archive, Cond.selects RX7 yX7_archive yX7_archive, Cond.code yX7_archive cX7_archive 3 (some .int), Cond.classLink RX7 57 "java/lang/IllegalStateException", Cond.initialized "java/lang/IllegalStateException", Cond.methodLink RX7 99 yX7_lineNumbered, Cond.instanceMethod yX7_lineNumbered, Cond.selects RX7 yX7_lineNumbered yX7_lineNumbered, Cond.code yX7_lineNumbered cX7_lineNumbered 2 (some (.object "LogWeave$Line"))]
def wsL_deed_r4 : List Cond := [Cond.classLink RX7 178 "java/util/NoSuchElementException", Cond.initialized "java/util/NoSuchElementException", Cond.methodLink RL 37 yX7_request, Cond.instanceMethod yX7_request, Cond.selects RX7 yX7_request yX7_request, Cond.code yX7_request cX7_request 5 (some .int), Cond.fieldLink RX7 25 "LogWeave" "requestList" "Ljava/util/ArrayList;", Cond.classLink RX7 164 RX1, Cond.instantiable RX1 4, Cond.initialized RX1, Cond.fieldLink RX7 76 "LogWeave" "now" "I", Cond.classLink RX7 173 RX5, Cond.instantiable RX5 4, Cond.initialized RX5, Cond.methodLink RX7 36 yX7_isRank, Cond.static yX7_isRank, Cond.code yX7_isRank cX7_isRank 1 (some .boolean), Cond.instanceMethod yX1_init, Cond.code yX1_init cX1_init 5 none, Cond.methodLink RX1 3 objectInit, Cond.instanceMethod objectInit, Cond.code objectInit ⟨#[0xb1]⟩ 1 none, Cond.fieldLink RX1 9 "LogWeave$Filter" "source" "I", Cond.fieldLink RX1 15 "LogWeave$Filter" "leastRank" "I"]
def wsL_deed_r5 : List Cond := [Cond.fieldLink RX1 18 "LogWeave$Filter" "place" "I", Cond.fieldLink RX1 21 "LogWeave$Filter" "word" "I", Cond.methodLink RX7 169 yX7_archivedLines, Cond.instanceMethod yX7_archivedLines, Cond.selects RX7 yX7_archivedLines yX7_archivedLines, Cond.code yX7_archivedLines cX7_archivedLines 5 (some .int), Cond.instanceMethod yX1_takes, Cond.selects RX1 yX1_takes yX1_takes, Cond.code yX1_takes cX1_takes 2 (some .boolean), Cond.instanceMethod yX6_at, Cond.initialized RX6, Cond.selects RX6 yX6_at yX6_at, Cond.code yX6_at cX6_at 2 (some .int), Cond.fieldLink RX6 9 "LogWeave$Words" "first" "I", Cond.fieldLink RX6 15 "LogWeave$Words" "second" "I", Cond.fieldLink RX6 18 "LogWeave$Words" "third" "I", Cond.instanceMethod yX5_init, Cond.code yX5_init cX5_init 3 none, Cond.methodLink RX5 1 objectInit, Cond.fieldLink RX5 7 "LogWeave$Request" "filter" "LLogWeave$Filter;", Cond.fieldLink RX5 13 "LogWeave$Request" "due" "I", Cond.methodLink RX7 83 yJx4a65c_add_9ea2d, Cond.instanceMethod yJx4a65c_add_9ea2d, Cond.selects RJx4a65c yJx4a65c_add_9ea2d yJx4a65c_add_9ea2d]
def wsL_deed_r6 : List Cond := [Cond.code yJx4a65c_add_9ea2d cJx4a65c_add_9ea2d 2 (some .boolean), Cond.fieldLink RJx4a65c 63 "java/util/ArrayList" "modCount" "I", Cond.sameField "java/util/ArrayList" "java/util/AbstractList" "modCount" "I", Cond.methodLink RJx4a65c 131 yJx4a65c_add_72be8, Cond.instanceMethod yJx4a65c_add_72be8, Cond.selects RJx4a65c yJx4a65c_add_72be8 yJx4a65c_add_72be8, Cond.code yJx4a65c_add_72be8 cJx4a65c_add_72be8 4 none, Cond.methodLink RJx4a65c 129 yJx4a65c_grow_d5877, Cond.instanceMethod yJx4a65c_grow_d5877, Cond.selects RJx4a65c yJx4a65c_grow_d5877 yJx4a65c_grow_d5877, Cond.code yJx4a65c_grow_d5877 cJx4a65c_grow_d5877 1 (some (.array (.object "java/lang/Object"))), Cond.methodLink RJx4a65c 69 yJx4a65c_grow_92f84, Cond.instanceMethod yJx4a65c_grow_92f84, Cond.selects RJx4a65c yJx4a65c_grow_92f84 yJx4a65c_grow_92f84, Cond.code yJx4a65c_grow_92f84 cJx4a65c_grow_92f84 4 (some (.array (.object "java/lang/Object"))), Cond.fieldLink RJx4a65c 39 "java/util/ArrayList" "DEFAULTCAPACITY_EMPTY_ELEMENTDATA" "[Ljava/lang/Object;", Cond.methodLink RJx4a65c 79 Lib.Math.max.name, Cond.static Lib.Math.max.name, Cond.initialized "java/lang/Math", Cond.code Lib.Math.max.name Lib.Math.max.code 2 (some .int), Cond.classLink RJx4a65c 7 "java/lang/Object", Cond.methodLink RJx4a65c 73 yJ8_newLength_cabcc, Cond.static yJ8_newLength_cabcc, Cond.initialized RJ8]
def wsL_deed_r7 : List Cond := [Cond.code yJ8_newLength_cabcc cJ8_newLength_cabcc 4 (some .int), Cond.methodLink RJ8 194 Lib.Math.max.name, Cond.constant RJ8 200 (2147483639), Cond.methodLink RJ8 201 yJ8_hugeLength_7cf53, Cond.static yJ8_hugeLength_7cf53, Cond.code yJ8_hugeLength_7cf53 cJ8_hugeLength_7cf53 3 (some .int), Cond.methodLink RJx4a65c 66 yJ7_copyOf_1904c, Cond.static yJ7_copyOf_1904c, Cond.initialized RJ7, Cond.code yJ7_copyOf_1904c cJ7_copyOf_1904c 2 (some (.array (.object "java/lang/Object"))), Cond.methodLink RJ7 86 ⟨"java/lang/Object", "getClass", "()Ljava/lang/Class;"⟩, Cond.selects "[Ljava/lang/Object;" ⟨"java/lang/Object", "getClass", "()Ljava/lang/Class;"⟩ ⟨"java/lang/Object", "getClass", "()Ljava/lang/Class;"⟩, Cond.instanceMethod ⟨"java/lang/Object", "getClass", "()Ljava/lang/Class;"⟩, Cond.native ⟨"java/lang/Object", "getClass", "()Ljava/lang/Class;"⟩, Cond.methodLink RJ7 300 yJ7_copyOf_6403c, Cond.static yJ7_copyOf_6403c, Cond.code yJ7_copyOf_6403c cJ7_copyOf_6403c 4 (some (.array (.object "java/lang/Object"))), Cond.classLink RJ7 110 "[Ljava/lang/Object;", Cond.classLink RJ7 2 "java/lang/Object", Cond.methodLink RJ7 304 Lib.Math.min.name, Cond.static Lib.Math.min.name, Cond.code Lib.Math.min.name Lib.Math.min.code 2 (some .int), Cond.methodLink RJ7 150 arraycopyName, Cond.native arraycopyName]
def wsL_deed_r8 : List Cond := [Cond.static arraycopyName, Cond.initialized "java/lang/System", Cond.methodLink RL 40 yX7_release, Cond.instanceMethod yX7_release, Cond.selects RX7 yX7_release yX7_release, Cond.code yX7_release cX7_release 3 (some .int), Cond.classLink RX7 251 "java/lang/UnsupportedOperationException", Cond.initialized "java/lang/UnsupportedOperationException", Cond.methodLink RX7 223 yX7_firingNumbered, Cond.instanceMethod yX7_firingNumbered, Cond.selects RX7 yX7_firingNumbered yX7_firingNumbered, Cond.code yX7_firingNumbered cX7_firingNumbered 2 (some (.object "LogWeave$Firing")), Cond.fieldLink RX7 22 "LogWeave" "firingList" "Ljava/util/ArrayList;", Cond.classLink RX7 228 "LogWeave$Firing", Cond.methodLink RX7 256 yX7_giveUpLines, Cond.instanceMethod yX7_giveUpLines, Cond.selects RX7 yX7_giveUpLines yX7_giveUpLines, Cond.code yX7_giveUpLines cX7_giveUpLines 3 none, Cond.instanceMethod yX2_hasLine, Cond.initialized RX2, Cond.selects RX2 yX2_hasLine yX2_hasLine, Cond.code yX2_hasLine cX2_hasLine 2 (some .boolean), Cond.fieldLink RX2 9 "LogWeave$Firing" "onLines" "[J", Cond.instanceMethod yX2_clearLines]
def wsL_deed_r9 : List Cond := [Cond.selects RX2 yX2_clearLines yX2_clearLines, Cond.code yX2_clearLines cX2_clearLines 2 none, Cond.fieldLink RX2 27 "LogWeave$Firing" "size" "I", Cond.methodLink RX7 260 yX7_lookAtAllSources, Cond.instanceMethod yX7_lookAtAllSources, Cond.selects RX7 yX7_lookAtAllSources yX7_lookAtAllSources, Cond.code yX7_lookAtAllSources cX7_lookAtAllSources 3 (some .int), Cond.methodLink RL 43 yX7_pass, Cond.instanceMethod yX7_pass, Cond.selects RX7 yX7_pass yX7_pass, Cond.code yX7_pass cX7_pass 4 (some .int), Cond.methodLink RX7 270 yX7_passOneTick, Cond.instanceMethod yX7_passOneTick, Cond.selects RX7 yX7_passOneTick yX7_passOneTick, Cond.code yX7_passOneTick cX7_passOneTick 3 (some .int), Cond.fieldLink RX7 19 "LogWeave" "alertList" "Ljava/util/ArrayList;", Cond.classLink RX7 195 "LogWeave$Alert", Cond.methodLink RX7 377 yX7_forgetLeavers, Cond.instanceMethod yX7_forgetLeavers, Cond.selects RX7 yX7_forgetLeavers yX7_forgetLeavers, Cond.code yX7_forgetLeavers cX7_forgetLeavers 5 none, Cond.instanceMethod yX0_shortenHold, Cond.initialized RX0, Cond.selects RX0 yX0_shortenHold yX0_shortenHold]
def wsL_deed_r10 : List Cond := [Cond.code yX0_shortenHold cX0_shortenHold 1 none, Cond.fieldLink RX0 9 "LogWeave$Alert" "state" "C", Cond.fieldLink RX0 45 "LogWeave$Alert" "heldTicks" "I", Cond.methodLink RX7 204 yX7_lookAtAlert, Cond.instanceMethod yX7_lookAtAlert, Cond.selects RX7 yX7_lookAtAlert yX7_lookAtAlert, Cond.code yX7_lookAtAlert cX7_lookAtAlert 2 none, Cond.classLink RX7 228 RX2, Cond.instantiable RX2 5, Cond.instanceMethod yX2_init, Cond.code yX2_init cX2_init 3 none, Cond.methodLink RX2 3 objectInit, Cond.arrayClass .long, Cond.fieldLink RX2 15 "LogWeave$Firing" "alert" "LLogWeave$Alert;", Cond.fieldLink RX2 19 "LogWeave$Firing" "began" "I", Cond.methodLink RX7 355 yX7_standOnCounted, Cond.instanceMethod yX7_standOnCounted, Cond.selects RX7 yX7_standOnCounted yX7_standOnCounted, Cond.code yX7_standOnCounted cX7_standOnCounted 5 none, Cond.instanceMethod yX3_cameWithin, Cond.initialized RX3, Cond.selects RX3 yX3_cameWithin yX3_cameWithin, Cond.code yX3_cameWithin cX3_cameWithin 3 (some .boolean), Cond.fieldLink RX3 29 "LogWeave$Line" "came" "I"]
def wsL_deed_r11 : List Cond := [Cond.instanceMethod yX0_counts, Cond.selects RX0 yX0_counts yX0_counts, Cond.code yX0_counts cX0_counts 3 (some .boolean), Cond.fieldLink RX0 26 "LogWeave$Alert" "window" "I", Cond.fieldLink RX0 19 "LogWeave$Alert" "filter" "LLogWeave$Filter;", Cond.instanceMethod yX2_putLine, Cond.selects RX2 yX2_putLine yX2_putLine, Cond.code yX2_putLine cX2_putLine 2 none, Cond.methodLink RX2 23 yX2_hasLine, Cond.methodLink RX7 383 yX7_answerRequests, Cond.instanceMethod yX7_answerRequests, Cond.selects RX7 yX7_answerRequests yX7_answerRequests, Cond.code yX7_answerRequests cX7_answerRequests 3 none, Cond.classLink RX7 173 "LogWeave$Request"]
def wsL_deed : List Cond := .codeWith yL_deed cL_deed 5 (some .int) [(0, 7, 8, 21), (0, 7, 14, 23), (0, 7, 20, 50), (0, 7, 26, 52)] :: ((wsL_deed_r1 ++ (wsL_deed_r2 ++ (wsL_deed_r3 ++ (wsL_deed_r4 ++ (wsL_deed_r5 ++ (wsL_deed_r6 ++ (wsL_deed_r7 ++ (wsL_deed_r8 ++ (wsL_deed_r9 ++ (wsL_deed_r10 ++ wsL_deed_r11)))))))))) ++ wsX70 ++ wsX30 ++ wsJx4a65c0 ++ wsX10 ++ wsX50 ++ wsX60 ++ wsX20 ++ wsX00 ++ (vx_atS RX7 50 "java/lang/IllegalArgumentException" ["java/lang/RuntimeException", "java/lang/Exception"]).filter goodWord ++ (vx_atM "java/lang/ArrayIndexOutOfBoundsException" ["java/lang/IndexOutOfBoundsException", "java/lang/RuntimeException", "java/lang/Exception"]).filter goodWord ++ (vx_atS RX7 61 "java/lang/IllegalStateException" ["java/lang/RuntimeException", "java/lang/Exception"]).filter goodWord ++ (vx_atS RX7 182 "java/util/NoSuchElementException" ["java/lang/RuntimeException", "java/lang/Exception"]).filter goodWord ++ (vx_atS RX7 255 "java/lang/UnsupportedOperationException" ["java/lang/RuntimeException", "java/lang/Exception"]).filter goodWord)
def wsL_asked_r1 : List Cond := [Cond.methodLink RL 54 yX7_stateOf, Cond.instanceMethod yX7_stateOf, Cond.selects RX7 yX7_stateOf yX7_stateOf, Cond.initialized RX7, Cond.code yX7_stateOf cX7_stateOf 2 (some .char), Cond.methodLink RX7 99 yX7_lineNumbered, Cond.instanceMethod yX7_lineNumbered, Cond.selects RX7 yX7_lineNumbered yX7_lineNumbered, Cond.code yX7_lineNumbered cX7_lineNumbered 2 (some (.object "LogWeave$Line")), Cond.classLink RX7 178 "java/util/NoSuchElementException", Cond.initialized "java/util/NoSuchElementException", Cond.fieldLink RX7 10 "LogWeave" "lineList" "Ljava/util/ArrayList;", Cond.classLink RX7 74 "LogWeave$Line", Cond.methodLink RX7 53 yJx4a65c_size_8abf5, Cond.instanceMethod yJx4a65c_size_8abf5, Cond.selects RJx4a65c yJx4a65c_size_8abf5 yJx4a65c_size_8abf5, Cond.initialized RJx4a65c, Cond.code yJx4a65c_size_8abf5 cJx4a65c_size_8abf5 1 (some .int), Cond.fieldLink RJx4a65c 48 "java/util/ArrayList" "size" "I", Cond.methodLink RX7 120 yJx4a65c_get_915e3, Cond.instanceMethod yJx4a65c_get_915e3, Cond.selects RJx4a65c yJx4a65c_get_915e3 yJx4a65c_get_915e3, Cond.code yJx4a65c_get_915e3 cJx4a65c_get_915e3 2 (some (.object "java/lang/Object")), Cond.methodLink RJx4a65c 118 yJ15_checkIndex_7cf53]
def wsL_asked_r2 : List Cond := [Cond.static yJ15_checkIndex_7cf53, Cond.initialized RJ15, Cond.code yJ15_checkIndex_7cf53 cJ15_checkIndex_7cf53 2 (some .int), Cond.methodLink RJ15 105 yJ3_checkIndex_8e157, Cond.static yJ3_checkIndex_8e157, Cond.initialized RJ3, Cond.code yJ3_checkIndex_8e157 cJ3_checkIndex_8e157 3 (some .int), Cond.methodLink RJx4a65c 123 yJx4a65c_elementData_915e3, Cond.instanceMethod yJx4a65c_elementData_915e3, Cond.selects RJx4a65c yJx4a65c_elementData_915e3 yJx4a65c_elementData_915e3, Cond.code yJx4a65c_elementData_915e3 cJx4a65c_elementData_915e3 2 (some (.object "java/lang/Object")), Cond.fieldLink RJx4a65c 9 "java/util/ArrayList" "elementData" "[Ljava/lang/Object;", Cond.methodLink RL 58 yX7_patternOf, Cond.instanceMethod yX7_patternOf, Cond.selects RX7 yX7_patternOf yX7_patternOf, Cond.code yX7_patternOf cX7_patternOf 2 (some .int), Cond.methodLink RL 61 yX7_patterns, Cond.instanceMethod yX7_patterns, Cond.selects RX7 yX7_patterns yX7_patterns, Cond.code yX7_patterns cX7_patterns 5 (some .int), Cond.fieldLink RX7 16 "LogWeave" "patternList" "Ljava/util/ArrayList;", Cond.classLink RX7 112 "LogWeave$Pattern", Cond.methodLink RX7 116 yX7_checkSource, Cond.static yX7_checkSource]
def wsL_asked_r3 : List Cond := [Cond.code yX7_checkSource cX7_checkSource 1 none, Cond.classLink RX7 46 "java/lang/IllegalArgumentException", Cond.initialized "java/lang/IllegalArgumentException", Cond.methodLink RX7 32 yX7_isSource, Cond.static yX7_isSource, Cond.code yX7_isSource cX7_isSource 1 (some .boolean), Cond.methodLink RX7 42 yX7_isWithin, Cond.static yX7_isWithin, Cond.code yX7_isWithin cX7_isWithin 3 (some .boolean), Cond.methodLink RL 64 yX7_wordAt, Cond.instanceMethod yX7_wordAt, Cond.selects RX7 yX7_wordAt yX7_wordAt, Cond.code yX7_wordAt cX7_wordAt 4 (some .int), Cond.methodLink RX7 131 yX7_patternNumbered, Cond.instanceMethod yX7_patternNumbered, Cond.selects RX7 yX7_patternNumbered yX7_patternNumbered, Cond.code yX7_patternNumbered cX7_patternNumbered 3 (some (.object "LogWeave$Pattern")), Cond.methodLink RX7 135 yX7_checkPlace, Cond.static yX7_checkPlace, Cond.code yX7_checkPlace cX7_checkPlace 1 none, Cond.instanceMethod yX6_at, Cond.initialized RX6, Cond.selects RX6 yX6_at yX6_at, Cond.code yX6_at cX6_at 2 (some .int)]
def wsL_asked_r4 : List Cond := [Cond.fieldLink RX6 9 "LogWeave$Words" "first" "I", Cond.fieldLink RX6 15 "LogWeave$Words" "second" "I", Cond.fieldLink RX6 18 "LogWeave$Words" "third" "I", Cond.methodLink RL 67 yX7_linesOf, Cond.instanceMethod yX7_linesOf, Cond.selects RX7 yX7_linesOf yX7_linesOf, Cond.code yX7_linesOf cX7_linesOf 5 (some .int), Cond.methodLink RL 70 yX7_values, Cond.instanceMethod yX7_values, Cond.selects RX7 yX7_values yX7_values, Cond.code yX7_values cX7_values 11 (some .int), Cond.methodLink RX7 146 yJ13_bitCount_95d88, Cond.static yJ13_bitCount_95d88, Cond.initialized RJ13, Cond.code yJ13_bitCount_95d88 cJ13_bitCount_95d88 2 (some .int), Cond.constantLong RJ13 314 (6148914691236517205), Cond.constantLong RJ13 316 (3689348814741910323), Cond.constantLong RJ13 318 (1085102592571150095), Cond.methodLink RL 73 yX7_kept, Cond.instanceMethod yX7_kept, Cond.selects RX7 yX7_kept yX7_kept, Cond.code yX7_kept cX7_kept 2 (some .int), Cond.methodLink RX7 154 yX7_keptBytes, Cond.instanceMethod yX7_keptBytes]
def wsL_asked_r5 : List Cond := [Cond.selects RX7 yX7_keptBytes yX7_keptBytes, Cond.code yX7_keptBytes cX7_keptBytes 5 (some .int), Cond.methodLink RL 76 yX7_dropped, Cond.instanceMethod yX7_dropped, Cond.selects RX7 yX7_dropped yX7_dropped, Cond.code yX7_dropped cX7_dropped 5 (some .int), Cond.methodLink RL 79 yX7_answer, Cond.instanceMethod yX7_answer, Cond.selects RX7 yX7_answer yX7_answer, Cond.code yX7_answer cX7_answer 3 (some .int), Cond.classLink RX7 57 "java/lang/IllegalStateException", Cond.initialized "java/lang/IllegalStateException", Cond.fieldLink RX7 25 "LogWeave" "requestList" "Ljava/util/ArrayList;", Cond.classLink RX7 173 "LogWeave$Request", Cond.methodLink RL 82 yX7_alertState, Cond.instanceMethod yX7_alertState, Cond.selects RX7 yX7_alertState yX7_alertState, Cond.code yX7_alertState cX7_alertState 2 (some .char), Cond.methodLink RX7 208 yX7_alertNumbered, Cond.instanceMethod yX7_alertNumbered, Cond.selects RX7 yX7_alertNumbered yX7_alertNumbered, Cond.code yX7_alertNumbered cX7_alertNumbered 2 (some (.object "LogWeave$Alert")), Cond.classLink RX7 306 "java/lang/IndexOutOfBoundsException", Cond.initialized "java/lang/IndexOutOfBoundsException"]
def wsL_asked_r6 : List Cond := [Cond.fieldLink RX7 19 "LogWeave" "alertList" "Ljava/util/ArrayList;", Cond.classLink RX7 195 "LogWeave$Alert", Cond.methodLink RL 85 yX7_counted, Cond.instanceMethod yX7_counted, Cond.selects RX7 yX7_counted yX7_counted, Cond.code yX7_counted cX7_counted 2 (some .int), Cond.methodLink RL 88 yX7_countedAnew, Cond.instanceMethod yX7_countedAnew, Cond.selects RX7 yX7_countedAnew yX7_countedAnew, Cond.code yX7_countedAnew cX7_countedAnew 2 (some .int), Cond.methodLink RX7 216 yX7_countFromAllLines, Cond.instanceMethod yX7_countFromAllLines, Cond.selects RX7 yX7_countFromAllLines yX7_countFromAllLines, Cond.code yX7_countFromAllLines cX7_countFromAllLines 4 (some .int), Cond.fieldLink RX7 76 "LogWeave" "now" "I", Cond.instanceMethod yX0_counts, Cond.initialized RX0, Cond.selects RX0 yX0_counts yX0_counts, Cond.code yX0_counts cX0_counts 3 (some .boolean), Cond.fieldLink RX0 26 "LogWeave$Alert" "window" "I", Cond.fieldLink RX0 19 "LogWeave$Alert" "filter" "LLogWeave$Filter;", Cond.instanceMethod yX3_cameWithin, Cond.initialized RX3, Cond.selects RX3 yX3_cameWithin yX3_cameWithin]
def wsL_asked_r7 : List Cond := [Cond.code yX3_cameWithin cX3_cameWithin 3 (some .boolean), Cond.fieldLink RX3 29 "LogWeave$Line" "came" "I", Cond.instanceMethod yX1_takes, Cond.initialized RX1, Cond.selects RX1 yX1_takes yX1_takes, Cond.code yX1_takes cX1_takes 2 (some .boolean), Cond.fieldLink RX1 9 "LogWeave$Filter" "source" "I", Cond.fieldLink RX1 15 "LogWeave$Filter" "leastRank" "I", Cond.fieldLink RX1 18 "LogWeave$Filter" "place" "I", Cond.fieldLink RX1 21 "LogWeave$Filter" "word" "I", Cond.methodLink RL 91 yX7_heldFor, Cond.instanceMethod yX7_heldFor, Cond.selects RX7 yX7_heldFor yX7_heldFor, Cond.code yX7_heldFor cX7_heldFor 2 (some .int), Cond.methodLink RL 94 yX7_alertOf, Cond.instanceMethod yX7_alertOf, Cond.selects RX7 yX7_alertOf yX7_alertOf, Cond.code yX7_alertOf cX7_alertOf 2 (some .int), Cond.methodLink RX7 223 yX7_firingNumbered, Cond.instanceMethod yX7_firingNumbered, Cond.selects RX7 yX7_firingNumbered yX7_firingNumbered, Cond.code yX7_firingNumbered cX7_firingNumbered 2 (some (.object "LogWeave$Firing")), Cond.fieldLink RX7 22 "LogWeave" "firingList" "Ljava/util/ArrayList;", Cond.classLink RX7 228 "LogWeave$Firing"]
def wsL_asked_r8 : List Cond := [Cond.methodLink RL 97 yX7_firedAt, Cond.instanceMethod yX7_firedAt, Cond.selects RX7 yX7_firedAt yX7_firedAt, Cond.code yX7_firedAt cX7_firedAt 2 (some .int), Cond.methodLink RL 100 yX7_ground, Cond.instanceMethod yX7_ground, Cond.selects RX7 yX7_ground yX7_ground, Cond.code yX7_ground cX7_ground 2 (some .int), Cond.methodLink RL 103 yX7_standsOn, Cond.instanceMethod yX7_standsOn, Cond.selects RX7 yX7_standsOn yX7_standsOn, Cond.code yX7_standsOn cX7_standsOn 4 (some .boolean), Cond.instanceMethod yX2_hasLine, Cond.initialized RX2, Cond.selects RX2 yX2_hasLine yX2_hasLine, Cond.code yX2_hasLine cX2_hasLine 2 (some .boolean), Cond.fieldLink RX2 9 "LogWeave$Firing" "onLines" "[J", Cond.methodLink RL 107 yL_told, Cond.static yL_told, Cond.initialized RL, Cond.code yL_told cL_told 1 (some .int), Cond.methodLink RL 111 yX7_isGuarded, Cond.instanceMethod yX7_isGuarded, Cond.selects RX7 yX7_isGuarded yX7_isGuarded]
def wsL_asked_r9 : List Cond := [Cond.code yX7_isGuarded cX7_isGuarded 2 (some .boolean)]
def wsL_asked : List Cond := .code yL_asked cL_asked 4 (some .int) :: ((wsL_asked_r1 ++ (wsL_asked_r2 ++ (wsL_asked_r3 ++ (wsL_asked_r4 ++ (wsL_asked_r5 ++ (wsL_asked_r6 ++ (wsL_asked_r7 ++ (wsL_asked_r8 ++ wsL_asked_r9)))))))) ++ wsX30 ++ wsX70 ++ wsJx4a65c0 ++ wsX40 ++ wsX60 ++ wsX50 ++ wsX00 ++ wsX10 ++ wsX20 ++ (vx_atS RX7 182 "java/util/NoSuchElementException" ["java/lang/RuntimeException", "java/lang/Exception"]).filter goodWord ++ (vx_atS RX7 50 "java/lang/IllegalArgumentException" ["java/lang/RuntimeException", "java/lang/Exception"]).filter goodWord ++ (vx_atS RX7 61 "java/lang/IllegalStateException" ["java/lang/RuntimeException", "java/lang/Exception"]).filter goodWord ++ (vx_atS RX7 310 "java/lang/IndexOutOfBoundsException" ["java/lang/RuntimeException", "java/lang/Exception"]).filter goodWord ++ (vx_atM "java/lang/ArrayIndexOutOfBoundsException" ["java/lang/IndexOutOfBoundsException", "java/lang/RuntimeException", "java/lang/Exception"]).filter goodWord)
def wsL_ask_r1 : List Cond := [Cond.classLink RL 118 "java/lang/IndexOutOfBoundsException", Cond.classLink RL 21 "java/lang/IllegalArgumentException", Cond.classLink RL 23 "java/lang/IllegalStateException", Cond.classLink RL 52 "java/util/NoSuchElementException", Cond.methodLink RL 115 yL_asked, Cond.static yL_asked, Cond.initialized RL, Cond.code yL_asked cL_asked 4 (some .int), Cond.methodLink RL 54 yX7_stateOf, Cond.instanceMethod yX7_stateOf, Cond.selects RX7 yX7_stateOf yX7_stateOf, Cond.initialized RX7, Cond.code yX7_stateOf cX7_stateOf 2 (some .char), Cond.methodLink RX7 99 yX7_lineNumbered, Cond.instanceMethod yX7_lineNumbered, Cond.selects RX7 yX7_lineNumbered yX7_lineNumbered, Cond.code yX7_lineNumbered cX7_lineNumbered 2 (some (.object "LogWeave$Line")), Cond.classLink RX7 178 "java/util/NoSuchElementException", Cond.initialized "java/util/NoSuchElementException", Cond.fieldLink RX7 10 "LogWeave" "lineList" "Ljava/util/ArrayList;", Cond.classLink RX7 74 "LogWeave$Line", Cond.methodLink RX7 53 yJx4a65c_size_8abf5, Cond.instanceMethod yJx4a65c_size_8abf5, Cond.selects RJx4a65c yJx4a65c_size_8abf5 yJx4a65c_size_8abf5]
def wsL_ask_r2 : List Cond := [Cond.initialized RJx4a65c, Cond.code yJx4a65c_size_8abf5 cJx4a65c_size_8abf5 1 (some .int), Cond.fieldLink RJx4a65c 48 "java/util/ArrayList" "size" "I", Cond.methodLink RX7 120 yJx4a65c_get_915e3, Cond.instanceMethod yJx4a65c_get_915e3, Cond.selects RJx4a65c yJx4a65c_get_915e3 yJx4a65c_get_915e3, Cond.code yJx4a65c_get_915e3 cJx4a65c_get_915e3 2 (some (.object "java/lang/Object")), Cond.methodLink RJx4a65c 118 yJ15_checkIndex_7cf53, Cond.static yJ15_checkIndex_7cf53, Cond.initialized RJ15, Cond.code yJ15_checkIndex_7cf53 cJ15_checkIndex_7cf53 2 (some .int), Cond.methodLink RJ15 105 yJ3_checkIndex_8e157, Cond.static yJ3_checkIndex_8e157, Cond.initialized RJ3, Cond.code yJ3_checkIndex_8e157 cJ3_checkIndex_8e157 3 (some .int), Cond.methodLink RJx4a65c 123 yJx4a65c_elementData_915e3, Cond.instanceMethod yJx4a65c_elementData_915e3, Cond.selects RJx4a65c yJx4a65c_elementData_915e3 yJx4a65c_elementData_915e3, Cond.code yJx4a65c_elementData_915e3 cJx4a65c_elementData_915e3 2 (some (.object "java/lang/Object")), Cond.fieldLink RJx4a65c 9 "java/util/ArrayList" "elementData" "[Ljava/lang/Object;", Cond.methodLink RL 58 yX7_patternOf, Cond.instanceMethod yX7_patternOf, Cond.selects RX7 yX7_patternOf yX7_patternOf, Cond.code yX7_patternOf cX7_patternOf 2 (some .int)]
def wsL_ask_r3 : List Cond := [Cond.methodLink RL 61 yX7_patterns, Cond.instanceMethod yX7_patterns, Cond.selects RX7 yX7_patterns yX7_patterns, Cond.code yX7_patterns cX7_patterns 5 (some .int), Cond.fieldLink RX7 16 "LogWeave" "patternList" "Ljava/util/ArrayList;", Cond.classLink RX7 112 "LogWeave$Pattern", Cond.methodLink RX7 116 yX7_checkSource, Cond.static yX7_checkSource, Cond.code yX7_checkSource cX7_checkSource 1 none, Cond.classLink RX7 46 "java/lang/IllegalArgumentException", Cond.initialized "java/lang/IllegalArgumentException", Cond.methodLink RX7 32 yX7_isSource, Cond.static yX7_isSource, Cond.code yX7_isSource cX7_isSource 1 (some .boolean), Cond.methodLink RX7 42 yX7_isWithin, Cond.static yX7_isWithin, Cond.code yX7_isWithin cX7_isWithin 3 (some .boolean), Cond.methodLink RL 64 yX7_wordAt, Cond.instanceMethod yX7_wordAt, Cond.selects RX7 yX7_wordAt yX7_wordAt, Cond.code yX7_wordAt cX7_wordAt 4 (some .int), Cond.methodLink RX7 131 yX7_patternNumbered, Cond.instanceMethod yX7_patternNumbered, Cond.selects RX7 yX7_patternNumbered yX7_patternNumbered]
def wsL_ask_r4 : List Cond := [Cond.code yX7_patternNumbered cX7_patternNumbered 3 (some (.object "LogWeave$Pattern")), Cond.methodLink RX7 135 yX7_checkPlace, Cond.static yX7_checkPlace, Cond.code yX7_checkPlace cX7_checkPlace 1 none, Cond.instanceMethod yX6_at, Cond.initialized RX6, Cond.selects RX6 yX6_at yX6_at, Cond.code yX6_at cX6_at 2 (some .int), Cond.fieldLink RX6 9 "LogWeave$Words" "first" "I", Cond.fieldLink RX6 15 "LogWeave$Words" "second" "I", Cond.fieldLink RX6 18 "LogWeave$Words" "third" "I", Cond.methodLink RL 67 yX7_linesOf, Cond.instanceMethod yX7_linesOf, Cond.selects RX7 yX7_linesOf yX7_linesOf, Cond.code yX7_linesOf cX7_linesOf 5 (some .int), Cond.methodLink RL 70 yX7_values, Cond.instanceMethod yX7_values, Cond.selects RX7 yX7_values yX7_values, Cond.code yX7_values cX7_values 11 (some .int), Cond.methodLink RX7 146 yJ13_bitCount_95d88, Cond.static yJ13_bitCount_95d88, Cond.initialized RJ13, Cond.code yJ13_bitCount_95d88 cJ13_bitCount_95d88 2 (some .int), Cond.constantLong RJ13 314 (6148914691236517205)]
def wsL_ask_r5 : List Cond := [Cond.constantLong RJ13 316 (3689348814741910323), Cond.constantLong RJ13 318 (1085102592571150095), Cond.methodLink RL 73 yX7_kept, Cond.instanceMethod yX7_kept, Cond.selects RX7 yX7_kept yX7_kept, Cond.code yX7_kept cX7_kept 2 (some .int), Cond.methodLink RX7 154 yX7_keptBytes, Cond.instanceMethod yX7_keptBytes, Cond.selects RX7 yX7_keptBytes yX7_keptBytes, Cond.code yX7_keptBytes cX7_keptBytes 5 (some .int), Cond.methodLink RL 76 yX7_dropped, Cond.instanceMethod yX7_dropped, Cond.selects RX7 yX7_dropped yX7_dropped, Cond.code yX7_dropped cX7_dropped 5 (some .int), Cond.methodLink RL 79 yX7_answer, Cond.instanceMethod yX7_answer, Cond.selects RX7 yX7_answer yX7_answer, Cond.code yX7_answer cX7_answer 3 (some .int), Cond.classLink RX7 57 "java/lang/IllegalStateException", Cond.initialized "java/lang/IllegalStateException", Cond.fieldLink RX7 25 "LogWeave" "requestList" "Ljava/util/ArrayList;", Cond.classLink RX7 173 "LogWeave$Request", Cond.methodLink RL 82 yX7_alertState, Cond.instanceMethod yX7_alertState]
def wsL_ask_r6 : List Cond := [Cond.selects RX7 yX7_alertState yX7_alertState, Cond.code yX7_alertState cX7_alertState 2 (some .char), Cond.methodLink RX7 208 yX7_alertNumbered, Cond.instanceMethod yX7_alertNumbered, Cond.selects RX7 yX7_alertNumbered yX7_alertNumbered, Cond.code yX7_alertNumbered cX7_alertNumbered 2 (some (.object "LogWeave$Alert")), Cond.classLink RX7 306 "java/lang/IndexOutOfBoundsException", Cond.initialized "java/lang/IndexOutOfBoundsException", Cond.fieldLink RX7 19 "LogWeave" "alertList" "Ljava/util/ArrayList;", Cond.classLink RX7 195 "LogWeave$Alert", Cond.methodLink RL 85 yX7_counted, Cond.instanceMethod yX7_counted, Cond.selects RX7 yX7_counted yX7_counted, Cond.code yX7_counted cX7_counted 2 (some .int), Cond.methodLink RL 88 yX7_countedAnew, Cond.instanceMethod yX7_countedAnew, Cond.selects RX7 yX7_countedAnew yX7_countedAnew, Cond.code yX7_countedAnew cX7_countedAnew 2 (some .int), Cond.methodLink RX7 216 yX7_countFromAllLines, Cond.instanceMethod yX7_countFromAllLines, Cond.selects RX7 yX7_countFromAllLines yX7_countFromAllLines, Cond.code yX7_countFromAllLines cX7_countFromAllLines 4 (some .int), Cond.fieldLink RX7 76 "LogWeave" "now" "I", Cond.instanceMethod yX0_counts]
def wsL_ask_r7 : List Cond := [Cond.initialized RX0, Cond.selects RX0 yX0_counts yX0_counts, Cond.code yX0_counts cX0_counts 3 (some .boolean), Cond.fieldLink RX0 26 "LogWeave$Alert" "window" "I", Cond.fieldLink RX0 19 "LogWeave$Alert" "filter" "LLogWeave$Filter;", Cond.instanceMethod yX3_cameWithin, Cond.initialized RX3, Cond.selects RX3 yX3_cameWithin yX3_cameWithin, Cond.code yX3_cameWithin cX3_cameWithin 3 (some .boolean), Cond.fieldLink RX3 29 "LogWeave$Line" "came" "I", Cond.instanceMethod yX1_takes, Cond.initialized RX1, Cond.selects RX1 yX1_takes yX1_takes, Cond.code yX1_takes cX1_takes 2 (some .boolean), Cond.fieldLink RX1 9 "LogWeave$Filter" "source" "I", Cond.fieldLink RX1 15 "LogWeave$Filter" "leastRank" "I", Cond.fieldLink RX1 18 "LogWeave$Filter" "place" "I", Cond.fieldLink RX1 21 "LogWeave$Filter" "word" "I", Cond.methodLink RL 91 yX7_heldFor, Cond.instanceMethod yX7_heldFor, Cond.selects RX7 yX7_heldFor yX7_heldFor, Cond.code yX7_heldFor cX7_heldFor 2 (some .int), Cond.methodLink RL 94 yX7_alertOf, Cond.instanceMethod yX7_alertOf]
def wsL_ask_r8 : List Cond := [Cond.selects RX7 yX7_alertOf yX7_alertOf, Cond.code yX7_alertOf cX7_alertOf 2 (some .int), Cond.methodLink RX7 223 yX7_firingNumbered, Cond.instanceMethod yX7_firingNumbered, Cond.selects RX7 yX7_firingNumbered yX7_firingNumbered, Cond.code yX7_firingNumbered cX7_firingNumbered 2 (some (.object "LogWeave$Firing")), Cond.fieldLink RX7 22 "LogWeave" "firingList" "Ljava/util/ArrayList;", Cond.classLink RX7 228 "LogWeave$Firing", Cond.methodLink RL 97 yX7_firedAt, Cond.instanceMethod yX7_firedAt, Cond.selects RX7 yX7_firedAt yX7_firedAt, Cond.code yX7_firedAt cX7_firedAt 2 (some .int), Cond.methodLink RL 100 yX7_ground, Cond.instanceMethod yX7_ground, Cond.selects RX7 yX7_ground yX7_ground, Cond.code yX7_ground cX7_ground 2 (some .int), Cond.methodLink RL 103 yX7_standsOn, Cond.instanceMethod yX7_standsOn, Cond.selects RX7 yX7_standsOn yX7_standsOn, Cond.code yX7_standsOn cX7_standsOn 4 (some .boolean), Cond.instanceMethod yX2_hasLine, Cond.initialized RX2, Cond.selects RX2 yX2_hasLine yX2_hasLine, Cond.code yX2_hasLine cX2_hasLine 2 (some .boolean)]
def wsL_ask_r9 : List Cond := [Cond.fieldLink RX2 9 "LogWeave$Firing" "onLines" "[J", Cond.methodLink RL 107 yL_told, Cond.static yL_told, Cond.code yL_told cL_told 1 (some .int), Cond.methodLink RL 111 yX7_isGuarded, Cond.instanceMethod yX7_isGuarded, Cond.selects RX7 yX7_isGuarded yX7_isGuarded, Cond.code yX7_isGuarded cX7_isGuarded 2 (some .boolean)]
def wsL_ask : List Cond := .codeWith yL_ask cL_ask 5 (some .int) [(0, 7, 8, 118), (0, 7, 14, 21), (0, 7, 20, 23), (0, 7, 26, 52)] :: ((wsL_ask_r1 ++ (wsL_ask_r2 ++ (wsL_ask_r3 ++ (wsL_ask_r4 ++ (wsL_ask_r5 ++ (wsL_ask_r6 ++ (wsL_ask_r7 ++ (wsL_ask_r8 ++ wsL_ask_r9)))))))) ++ wsX30 ++ wsX70 ++ wsJx4a65c0 ++ wsX40 ++ wsX60 ++ wsX50 ++ wsX00 ++ wsX10 ++ wsX20 ++ (vx_atS RX7 182 "java/util/NoSuchElementException" ["java/lang/RuntimeException", "java/lang/Exception"]).filter goodWord ++ (vx_atS RX7 50 "java/lang/IllegalArgumentException" ["java/lang/RuntimeException", "java/lang/Exception"]).filter goodWord ++ (vx_atS RX7 61 "java/lang/IllegalStateException" ["java/lang/RuntimeException", "java/lang/Exception"]).filter goodWord ++ (vx_atS RX7 310 "java/lang/IndexOutOfBoundsException" ["java/lang/RuntimeException", "java/lang/Exception"]).filter goodWord ++ (vx_atM "java/lang/ArrayIndexOutOfBoundsException" ["java/lang/IndexOutOfBoundsException", "java/lang/RuntimeException", "java/lang/Exception"]).filter goodWord)
def wsL_arePatterns_r1 : List Cond := [Cond.arrayClass .int, Cond.methodLink RL 123 Lib.Math.max.name, Cond.static Lib.Math.max.name, Cond.initialized "java/lang/Math", Cond.code Lib.Math.max.name Lib.Math.max.code 2 (some .int), Cond.methodLink RL 120 yL_ask, Cond.static yL_ask, Cond.initialized RL, Cond.codeWith yL_ask cL_ask 5 (some .int) [(0, 7, 8, 118), (0, 7, 14, 21), (0, 7, 20, 23), (0, 7, 26, 52)], Cond.classLink RL 118 "java/lang/IndexOutOfBoundsException", Cond.classLink RL 21 "java/lang/IllegalArgumentException", Cond.classLink RL 23 "java/lang/IllegalStateException", Cond.classLink RL 52 "java/util/NoSuchElementException", Cond.methodLink RL 115 yL_asked, Cond.static yL_asked, Cond.code yL_asked cL_asked 4 (some .int), Cond.methodLink RL 54 yX7_stateOf, Cond.instanceMethod yX7_stateOf, Cond.selects RX7 yX7_stateOf yX7_stateOf, Cond.initialized RX7, Cond.code yX7_stateOf cX7_stateOf 2 (some .char), Cond.methodLink RX7 99 yX7_lineNumbered, Cond.instanceMethod yX7_lineNumbered, Cond.selects RX7 yX7_lineNumbered yX7_lineNumbered]
def wsL_arePatterns_r2 : List Cond := [Cond.code yX7_lineNumbered cX7_lineNumbered 2 (some (.object "LogWeave$Line")), Cond.classLink RX7 178 "java/util/NoSuchElementException", Cond.initialized "java/util/NoSuchElementException", Cond.fieldLink RX7 10 "LogWeave" "lineList" "Ljava/util/ArrayList;", Cond.classLink RX7 74 "LogWeave$Line", Cond.methodLink RX7 53 yJx4a65c_size_8abf5, Cond.instanceMethod yJx4a65c_size_8abf5, Cond.selects RJx4a65c yJx4a65c_size_8abf5 yJx4a65c_size_8abf5, Cond.initialized RJx4a65c, Cond.code yJx4a65c_size_8abf5 cJx4a65c_size_8abf5 1 (some .int), Cond.fieldLink RJx4a65c 48 "java/util/ArrayList" "size" "I", Cond.methodLink RX7 120 yJx4a65c_get_915e3, Cond.instanceMethod yJx4a65c_get_915e3, Cond.selects RJx4a65c yJx4a65c_get_915e3 yJx4a65c_get_915e3, Cond.code yJx4a65c_get_915e3 cJx4a65c_get_915e3 2 (some (.object "java/lang/Object")), Cond.methodLink RJx4a65c 118 yJ15_checkIndex_7cf53, Cond.static yJ15_checkIndex_7cf53, Cond.initialized RJ15, Cond.code yJ15_checkIndex_7cf53 cJ15_checkIndex_7cf53 2 (some .int), Cond.methodLink RJ15 105 yJ3_checkIndex_8e157, Cond.static yJ3_checkIndex_8e157, Cond.initialized RJ3, Cond.code yJ3_checkIndex_8e157 cJ3_checkIndex_8e157 3 (some .int), Cond.methodLink RJx4a65c 123 yJx4a65c_elementData_915e3]
def wsL_arePatterns_r3 : List Cond := [Cond.instanceMethod yJx4a65c_elementData_915e3, Cond.selects RJx4a65c yJx4a65c_elementData_915e3 yJx4a65c_elementData_915e3, Cond.code yJx4a65c_elementData_915e3 cJx4a65c_elementData_915e3 2 (some (.object "java/lang/Object")), Cond.fieldLink RJx4a65c 9 "java/util/ArrayList" "elementData" "[Ljava/lang/Object;", Cond.methodLink RL 58 yX7_patternOf, Cond.instanceMethod yX7_patternOf, Cond.selects RX7 yX7_patternOf yX7_patternOf, Cond.code yX7_patternOf cX7_patternOf 2 (some .int), Cond.methodLink RL 61 yX7_patterns, Cond.instanceMethod yX7_patterns, Cond.selects RX7 yX7_patterns yX7_patterns, Cond.code yX7_patterns cX7_patterns 5 (some .int), Cond.fieldLink RX7 16 "LogWeave" "patternList" "Ljava/util/ArrayList;", Cond.classLink RX7 112 "LogWeave$Pattern", Cond.methodLink RX7 116 yX7_checkSource, Cond.static yX7_checkSource, Cond.code yX7_checkSource cX7_checkSource 1 none, Cond.classLink RX7 46 "java/lang/IllegalArgumentException", Cond.initialized "java/lang/IllegalArgumentException", Cond.methodLink RX7 32 yX7_isSource, Cond.static yX7_isSource, Cond.code yX7_isSource cX7_isSource 1 (some .boolean), Cond.methodLink RX7 42 yX7_isWithin, Cond.static yX7_isWithin]
def wsL_arePatterns_r4 : List Cond := [Cond.code yX7_isWithin cX7_isWithin 3 (some .boolean), Cond.methodLink RL 64 yX7_wordAt, Cond.instanceMethod yX7_wordAt, Cond.selects RX7 yX7_wordAt yX7_wordAt, Cond.code yX7_wordAt cX7_wordAt 4 (some .int), Cond.methodLink RX7 131 yX7_patternNumbered, Cond.instanceMethod yX7_patternNumbered, Cond.selects RX7 yX7_patternNumbered yX7_patternNumbered, Cond.code yX7_patternNumbered cX7_patternNumbered 3 (some (.object "LogWeave$Pattern")), Cond.methodLink RX7 135 yX7_checkPlace, Cond.static yX7_checkPlace, Cond.code yX7_checkPlace cX7_checkPlace 1 none, Cond.instanceMethod yX6_at, Cond.initialized RX6, Cond.selects RX6 yX6_at yX6_at, Cond.code yX6_at cX6_at 2 (some .int), Cond.fieldLink RX6 9 "LogWeave$Words" "first" "I", Cond.fieldLink RX6 15 "LogWeave$Words" "second" "I", Cond.fieldLink RX6 18 "LogWeave$Words" "third" "I", Cond.methodLink RL 67 yX7_linesOf, Cond.instanceMethod yX7_linesOf, Cond.selects RX7 yX7_linesOf yX7_linesOf, Cond.code yX7_linesOf cX7_linesOf 5 (some .int), Cond.methodLink RL 70 yX7_values]
def wsL_arePatterns_r5 : List Cond := [Cond.instanceMethod yX7_values, Cond.selects RX7 yX7_values yX7_values, Cond.code yX7_values cX7_values 11 (some .int), Cond.methodLink RX7 146 yJ13_bitCount_95d88, Cond.static yJ13_bitCount_95d88, Cond.initialized RJ13, Cond.code yJ13_bitCount_95d88 cJ13_bitCount_95d88 2 (some .int), Cond.constantLong RJ13 314 (6148914691236517205), Cond.constantLong RJ13 316 (3689348814741910323), Cond.constantLong RJ13 318 (1085102592571150095), Cond.methodLink RL 73 yX7_kept, Cond.instanceMethod yX7_kept, Cond.selects RX7 yX7_kept yX7_kept, Cond.code yX7_kept cX7_kept 2 (some .int), Cond.methodLink RX7 154 yX7_keptBytes, Cond.instanceMethod yX7_keptBytes, Cond.selects RX7 yX7_keptBytes yX7_keptBytes, Cond.code yX7_keptBytes cX7_keptBytes 5 (some .int), Cond.methodLink RL 76 yX7_dropped, Cond.instanceMethod yX7_dropped, Cond.selects RX7 yX7_dropped yX7_dropped, Cond.code yX7_dropped cX7_dropped 5 (some .int), Cond.methodLink RL 79 yX7_answer, Cond.instanceMethod yX7_answer]
def wsL_arePatterns_r6 : List Cond := [Cond.selects RX7 yX7_answer yX7_answer, Cond.code yX7_answer cX7_answer 3 (some .int), Cond.classLink RX7 57 "java/lang/IllegalStateException", Cond.initialized "java/lang/IllegalStateException", Cond.fieldLink RX7 25 "LogWeave" "requestList" "Ljava/util/ArrayList;", Cond.classLink RX7 173 "LogWeave$Request", Cond.methodLink RL 82 yX7_alertState, Cond.instanceMethod yX7_alertState, Cond.selects RX7 yX7_alertState yX7_alertState, Cond.code yX7_alertState cX7_alertState 2 (some .char), Cond.methodLink RX7 208 yX7_alertNumbered, Cond.instanceMethod yX7_alertNumbered, Cond.selects RX7 yX7_alertNumbered yX7_alertNumbered, Cond.code yX7_alertNumbered cX7_alertNumbered 2 (some (.object "LogWeave$Alert")), Cond.classLink RX7 306 "java/lang/IndexOutOfBoundsException", Cond.initialized "java/lang/IndexOutOfBoundsException", Cond.fieldLink RX7 19 "LogWeave" "alertList" "Ljava/util/ArrayList;", Cond.classLink RX7 195 "LogWeave$Alert", Cond.methodLink RL 85 yX7_counted, Cond.instanceMethod yX7_counted, Cond.selects RX7 yX7_counted yX7_counted, Cond.code yX7_counted cX7_counted 2 (some .int), Cond.methodLink RL 88 yX7_countedAnew, Cond.instanceMethod yX7_countedAnew]
def wsL_arePatterns_r7 : List Cond := [Cond.selects RX7 yX7_countedAnew yX7_countedAnew, Cond.code yX7_countedAnew cX7_countedAnew 2 (some .int), Cond.methodLink RX7 216 yX7_countFromAllLines, Cond.instanceMethod yX7_countFromAllLines, Cond.selects RX7 yX7_countFromAllLines yX7_countFromAllLines, Cond.code yX7_countFromAllLines cX7_countFromAllLines 4 (some .int), Cond.fieldLink RX7 76 "LogWeave" "now" "I", Cond.instanceMethod yX0_counts, Cond.initialized RX0, Cond.selects RX0 yX0_counts yX0_counts, Cond.code yX0_counts cX0_counts 3 (some .boolean), Cond.fieldLink RX0 26 "LogWeave$Alert" "window" "I", Cond.fieldLink RX0 19 "LogWeave$Alert" "filter" "LLogWeave$Filter;", Cond.instanceMethod yX3_cameWithin, Cond.initialized RX3, Cond.selects RX3 yX3_cameWithin yX3_cameWithin, Cond.code yX3_cameWithin cX3_cameWithin 3 (some .boolean), Cond.fieldLink RX3 29 "LogWeave$Line" "came" "I", Cond.instanceMethod yX1_takes, Cond.initialized RX1, Cond.selects RX1 yX1_takes yX1_takes, Cond.code yX1_takes cX1_takes 2 (some .boolean), Cond.fieldLink RX1 9 "LogWeave$Filter" "source" "I", Cond.fieldLink RX1 15 "LogWeave$Filter" "leastRank" "I"]
def wsL_arePatterns_r8 : List Cond := [Cond.fieldLink RX1 18 "LogWeave$Filter" "place" "I", Cond.fieldLink RX1 21 "LogWeave$Filter" "word" "I", Cond.methodLink RL 91 yX7_heldFor, Cond.instanceMethod yX7_heldFor, Cond.selects RX7 yX7_heldFor yX7_heldFor, Cond.code yX7_heldFor cX7_heldFor 2 (some .int), Cond.methodLink RL 94 yX7_alertOf, Cond.instanceMethod yX7_alertOf, Cond.selects RX7 yX7_alertOf yX7_alertOf, Cond.code yX7_alertOf cX7_alertOf 2 (some .int), Cond.methodLink RX7 223 yX7_firingNumbered, Cond.instanceMethod yX7_firingNumbered, Cond.selects RX7 yX7_firingNumbered yX7_firingNumbered, Cond.code yX7_firingNumbered cX7_firingNumbered 2 (some (.object "LogWeave$Firing")), Cond.fieldLink RX7 22 "LogWeave" "firingList" "Ljava/util/ArrayList;", Cond.classLink RX7 228 "LogWeave$Firing", Cond.methodLink RL 97 yX7_firedAt, Cond.instanceMethod yX7_firedAt, Cond.selects RX7 yX7_firedAt yX7_firedAt, Cond.code yX7_firedAt cX7_firedAt 2 (some .int), Cond.methodLink RL 100 yX7_ground, Cond.instanceMethod yX7_ground, Cond.selects RX7 yX7_ground yX7_ground, Cond.code yX7_ground cX7_ground 2 (some .int)]
def wsL_arePatterns_r9 : List Cond := [Cond.methodLink RL 103 yX7_standsOn, Cond.instanceMethod yX7_standsOn, Cond.selects RX7 yX7_standsOn yX7_standsOn, Cond.code yX7_standsOn cX7_standsOn 4 (some .boolean), Cond.instanceMethod yX2_hasLine, Cond.initialized RX2, Cond.selects RX2 yX2_hasLine yX2_hasLine, Cond.code yX2_hasLine cX2_hasLine 2 (some .boolean), Cond.fieldLink RX2 9 "LogWeave$Firing" "onLines" "[J", Cond.methodLink RL 107 yL_told, Cond.static yL_told, Cond.code yL_told cL_told 1 (some .int), Cond.methodLink RL 111 yX7_isGuarded, Cond.instanceMethod yX7_isGuarded, Cond.selects RX7 yX7_isGuarded yX7_isGuarded, Cond.code yX7_isGuarded cX7_isGuarded 2 (some .boolean)]
def wsL_arePatterns : List Cond := .code yL_arePatterns cL_arePatterns 14 (some .boolean) :: ((wsL_arePatterns_r1 ++ (wsL_arePatterns_r2 ++ (wsL_arePatterns_r3 ++ (wsL_arePatterns_r4 ++ (wsL_arePatterns_r5 ++ (wsL_arePatterns_r6 ++ (wsL_arePatterns_r7 ++ (wsL_arePatterns_r8 ++ wsL_arePatterns_r9)))))))) ++ wsX30 ++ wsX70 ++ wsJx4a65c0 ++ wsX40 ++ wsX60 ++ wsX50 ++ wsX00 ++ wsX10 ++ wsX20 ++ (vx_atM "java/lang/ArrayIndexOutOfBoundsException" ["java/lang/IndexOutOfBoundsException", "java/lang/RuntimeException", "java/lang/Exception"]).filter goodWord ++ (vx_atS RX7 182 "java/util/NoSuchElementException" ["java/lang/RuntimeException", "java/lang/Exception"]).filter goodWord ++ (vx_atS RX7 50 "java/lang/IllegalArgumentException" ["java/lang/RuntimeException", "java/lang/Exception"]).filter goodWord ++ (vx_atS RX7 61 "java/lang/IllegalStateException" ["java/lang/RuntimeException", "java/lang/Exception"]).filter goodWord ++ (vx_atS RX7 310 "java/lang/IndexOutOfBoundsException" ["java/lang/RuntimeException", "java/lang/Exception"]).filter goodWord)
def wsL_areAlerts_r1 : List Cond := [Cond.arrayClass .boolean, Cond.methodLink RL 120 yL_ask, Cond.static yL_ask, Cond.initialized RL, Cond.codeWith yL_ask cL_ask 5 (some .int) [(0, 7, 8, 118), (0, 7, 14, 21), (0, 7, 20, 23), (0, 7, 26, 52)], Cond.classLink RL 118 "java/lang/IndexOutOfBoundsException", Cond.classLink RL 21 "java/lang/IllegalArgumentException", Cond.classLink RL 23 "java/lang/IllegalStateException", Cond.classLink RL 52 "java/util/NoSuchElementException", Cond.methodLink RL 115 yL_asked, Cond.static yL_asked, Cond.code yL_asked cL_asked 4 (some .int), Cond.methodLink RL 54 yX7_stateOf, Cond.instanceMethod yX7_stateOf, Cond.selects RX7 yX7_stateOf yX7_stateOf, Cond.initialized RX7, Cond.code yX7_stateOf cX7_stateOf 2 (some .char), Cond.methodLink RX7 99 yX7_lineNumbered, Cond.instanceMethod yX7_lineNumbered, Cond.selects RX7 yX7_lineNumbered yX7_lineNumbered, Cond.code yX7_lineNumbered cX7_lineNumbered 2 (some (.object "LogWeave$Line")), Cond.classLink RX7 178 "java/util/NoSuchElementException", Cond.initialized "java/util/NoSuchElementException", Cond.fieldLink RX7 10 "LogWeave" "lineList" "Ljava/util/ArrayList;"]
def wsL_areAlerts_r2 : List Cond := [Cond.classLink RX7 74 "LogWeave$Line", Cond.methodLink RX7 53 yJx4a65c_size_8abf5, Cond.instanceMethod yJx4a65c_size_8abf5, Cond.selects RJx4a65c yJx4a65c_size_8abf5 yJx4a65c_size_8abf5, Cond.initialized RJx4a65c, Cond.code yJx4a65c_size_8abf5 cJx4a65c_size_8abf5 1 (some .int), Cond.fieldLink RJx4a65c 48 "java/util/ArrayList" "size" "I", Cond.methodLink RX7 120 yJx4a65c_get_915e3, Cond.instanceMethod yJx4a65c_get_915e3, Cond.selects RJx4a65c yJx4a65c_get_915e3 yJx4a65c_get_915e3, Cond.code yJx4a65c_get_915e3 cJx4a65c_get_915e3 2 (some (.object "java/lang/Object")), Cond.methodLink RJx4a65c 118 yJ15_checkIndex_7cf53, Cond.static yJ15_checkIndex_7cf53, Cond.initialized RJ15, Cond.code yJ15_checkIndex_7cf53 cJ15_checkIndex_7cf53 2 (some .int), Cond.methodLink RJ15 105 yJ3_checkIndex_8e157, Cond.static yJ3_checkIndex_8e157, Cond.initialized RJ3, Cond.code yJ3_checkIndex_8e157 cJ3_checkIndex_8e157 3 (some .int), Cond.methodLink RJx4a65c 123 yJx4a65c_elementData_915e3, Cond.instanceMethod yJx4a65c_elementData_915e3, Cond.selects RJx4a65c yJx4a65c_elementData_915e3 yJx4a65c_elementData_915e3, Cond.code yJx4a65c_elementData_915e3 cJx4a65c_elementData_915e3 2 (some (.object "java/lang/Object")), Cond.fieldLink RJx4a65c 9 "java/util/ArrayList" "elementData" "[Ljava/lang/Object;"]
def wsL_areAlerts_r3 : List Cond := [Cond.methodLink RL 58 yX7_patternOf, Cond.instanceMethod yX7_patternOf, Cond.selects RX7 yX7_patternOf yX7_patternOf, Cond.code yX7_patternOf cX7_patternOf 2 (some .int), Cond.methodLink RL 61 yX7_patterns, Cond.instanceMethod yX7_patterns, Cond.selects RX7 yX7_patterns yX7_patterns, Cond.code yX7_patterns cX7_patterns 5 (some .int), Cond.fieldLink RX7 16 "LogWeave" "patternList" "Ljava/util/ArrayList;", Cond.classLink RX7 112 "LogWeave$Pattern", Cond.methodLink RX7 116 yX7_checkSource, Cond.static yX7_checkSource, Cond.code yX7_checkSource cX7_checkSource 1 none, Cond.classLink RX7 46 "java/lang/IllegalArgumentException", Cond.initialized "java/lang/IllegalArgumentException", Cond.methodLink RX7 32 yX7_isSource, Cond.static yX7_isSource, Cond.code yX7_isSource cX7_isSource 1 (some .boolean), Cond.methodLink RX7 42 yX7_isWithin, Cond.static yX7_isWithin, Cond.code yX7_isWithin cX7_isWithin 3 (some .boolean), Cond.methodLink RL 64 yX7_wordAt, Cond.instanceMethod yX7_wordAt, Cond.selects RX7 yX7_wordAt yX7_wordAt]
def wsL_areAlerts_r4 : List Cond := [Cond.code yX7_wordAt cX7_wordAt 4 (some .int), Cond.methodLink RX7 131 yX7_patternNumbered, Cond.instanceMethod yX7_patternNumbered, Cond.selects RX7 yX7_patternNumbered yX7_patternNumbered, Cond.code yX7_patternNumbered cX7_patternNumbered 3 (some (.object "LogWeave$Pattern")), Cond.methodLink RX7 135 yX7_checkPlace, Cond.static yX7_checkPlace, Cond.code yX7_checkPlace cX7_checkPlace 1 none, Cond.instanceMethod yX6_at, Cond.initialized RX6, Cond.selects RX6 yX6_at yX6_at, Cond.code yX6_at cX6_at 2 (some .int), Cond.fieldLink RX6 9 "LogWeave$Words" "first" "I", Cond.fieldLink RX6 15 "LogWeave$Words" "second" "I", Cond.fieldLink RX6 18 "LogWeave$Words" "third" "I", Cond.methodLink RL 67 yX7_linesOf, Cond.instanceMethod yX7_linesOf, Cond.selects RX7 yX7_linesOf yX7_linesOf, Cond.code yX7_linesOf cX7_linesOf 5 (some .int), Cond.methodLink RL 70 yX7_values, Cond.instanceMethod yX7_values, Cond.selects RX7 yX7_values yX7_values, Cond.code yX7_values cX7_values 11 (some .int), Cond.methodLink RX7 146 yJ13_bitCount_95d88]
def wsL_areAlerts_r5 : List Cond := [Cond.static yJ13_bitCount_95d88, Cond.initialized RJ13, Cond.code yJ13_bitCount_95d88 cJ13_bitCount_95d88 2 (some .int), Cond.constantLong RJ13 314 (6148914691236517205), Cond.constantLong RJ13 316 (3689348814741910323), Cond.constantLong RJ13 318 (1085102592571150095), Cond.methodLink RL 73 yX7_kept, Cond.instanceMethod yX7_kept, Cond.selects RX7 yX7_kept yX7_kept, Cond.code yX7_kept cX7_kept 2 (some .int), Cond.methodLink RX7 154 yX7_keptBytes, Cond.instanceMethod yX7_keptBytes, Cond.selects RX7 yX7_keptBytes yX7_keptBytes, Cond.code yX7_keptBytes cX7_keptBytes 5 (some .int), Cond.methodLink RL 76 yX7_dropped, Cond.instanceMethod yX7_dropped, Cond.selects RX7 yX7_dropped yX7_dropped, Cond.code yX7_dropped cX7_dropped 5 (some .int), Cond.methodLink RL 79 yX7_answer, Cond.instanceMethod yX7_answer, Cond.selects RX7 yX7_answer yX7_answer, Cond.code yX7_answer cX7_answer 3 (some .int), Cond.classLink RX7 57 "java/lang/IllegalStateException", Cond.initialized "java/lang/IllegalStateException"]
def wsL_areAlerts_r6 : List Cond := [Cond.fieldLink RX7 25 "LogWeave" "requestList" "Ljava/util/ArrayList;", Cond.classLink RX7 173 "LogWeave$Request", Cond.methodLink RL 82 yX7_alertState, Cond.instanceMethod yX7_alertState, Cond.selects RX7 yX7_alertState yX7_alertState, Cond.code yX7_alertState cX7_alertState 2 (some .char), Cond.methodLink RX7 208 yX7_alertNumbered, Cond.instanceMethod yX7_alertNumbered, Cond.selects RX7 yX7_alertNumbered yX7_alertNumbered, Cond.code yX7_alertNumbered cX7_alertNumbered 2 (some (.object "LogWeave$Alert")), Cond.classLink RX7 306 "java/lang/IndexOutOfBoundsException", Cond.initialized "java/lang/IndexOutOfBoundsException", Cond.fieldLink RX7 19 "LogWeave" "alertList" "Ljava/util/ArrayList;", Cond.classLink RX7 195 "LogWeave$Alert", Cond.methodLink RL 85 yX7_counted, Cond.instanceMethod yX7_counted, Cond.selects RX7 yX7_counted yX7_counted, Cond.code yX7_counted cX7_counted 2 (some .int), Cond.methodLink RL 88 yX7_countedAnew, Cond.instanceMethod yX7_countedAnew, Cond.selects RX7 yX7_countedAnew yX7_countedAnew, Cond.code yX7_countedAnew cX7_countedAnew 2 (some .int), Cond.methodLink RX7 216 yX7_countFromAllLines, Cond.instanceMethod yX7_countFromAllLines]
def wsL_areAlerts_r7 : List Cond := [Cond.selects RX7 yX7_countFromAllLines yX7_countFromAllLines, Cond.code yX7_countFromAllLines cX7_countFromAllLines 4 (some .int), Cond.fieldLink RX7 76 "LogWeave" "now" "I", Cond.instanceMethod yX0_counts, Cond.initialized RX0, Cond.selects RX0 yX0_counts yX0_counts, Cond.code yX0_counts cX0_counts 3 (some .boolean), Cond.fieldLink RX0 26 "LogWeave$Alert" "window" "I", Cond.fieldLink RX0 19 "LogWeave$Alert" "filter" "LLogWeave$Filter;", Cond.instanceMethod yX3_cameWithin, Cond.initialized RX3, Cond.selects RX3 yX3_cameWithin yX3_cameWithin, Cond.code yX3_cameWithin cX3_cameWithin 3 (some .boolean), Cond.fieldLink RX3 29 "LogWeave$Line" "came" "I", Cond.instanceMethod yX1_takes, Cond.initialized RX1, Cond.selects RX1 yX1_takes yX1_takes, Cond.code yX1_takes cX1_takes 2 (some .boolean), Cond.fieldLink RX1 9 "LogWeave$Filter" "source" "I", Cond.fieldLink RX1 15 "LogWeave$Filter" "leastRank" "I", Cond.fieldLink RX1 18 "LogWeave$Filter" "place" "I", Cond.fieldLink RX1 21 "LogWeave$Filter" "word" "I", Cond.methodLink RL 91 yX7_heldFor, Cond.instanceMethod yX7_heldFor]
def wsL_areAlerts_r8 : List Cond := [Cond.selects RX7 yX7_heldFor yX7_heldFor, Cond.code yX7_heldFor cX7_heldFor 2 (some .int), Cond.methodLink RL 94 yX7_alertOf, Cond.instanceMethod yX7_alertOf, Cond.selects RX7 yX7_alertOf yX7_alertOf, Cond.code yX7_alertOf cX7_alertOf 2 (some .int), Cond.methodLink RX7 223 yX7_firingNumbered, Cond.instanceMethod yX7_firingNumbered, Cond.selects RX7 yX7_firingNumbered yX7_firingNumbered, Cond.code yX7_firingNumbered cX7_firingNumbered 2 (some (.object "LogWeave$Firing")), Cond.fieldLink RX7 22 "LogWeave" "firingList" "Ljava/util/ArrayList;", Cond.classLink RX7 228 "LogWeave$Firing", Cond.methodLink RL 97 yX7_firedAt, Cond.instanceMethod yX7_firedAt, Cond.selects RX7 yX7_firedAt yX7_firedAt, Cond.code yX7_firedAt cX7_firedAt 2 (some .int), Cond.methodLink RL 100 yX7_ground, Cond.instanceMethod yX7_ground, Cond.selects RX7 yX7_ground yX7_ground, Cond.code yX7_ground cX7_ground 2 (some .int), Cond.methodLink RL 103 yX7_standsOn, Cond.instanceMethod yX7_standsOn, Cond.selects RX7 yX7_standsOn yX7_standsOn, Cond.code yX7_standsOn cX7_standsOn 4 (some .boolean)]
def wsL_areAlerts_r9 : List Cond := [Cond.instanceMethod yX2_hasLine, Cond.initialized RX2, Cond.selects RX2 yX2_hasLine yX2_hasLine, Cond.code yX2_hasLine cX2_hasLine 2 (some .boolean), Cond.fieldLink RX2 9 "LogWeave$Firing" "onLines" "[J", Cond.methodLink RL 107 yL_told, Cond.static yL_told, Cond.code yL_told cL_told 1 (some .int), Cond.methodLink RL 111 yX7_isGuarded, Cond.instanceMethod yX7_isGuarded, Cond.selects RX7 yX7_isGuarded yX7_isGuarded, Cond.code yX7_isGuarded cX7_isGuarded 2 (some .boolean), Cond.methodLink RL 128 yX7_firings, Cond.instanceMethod yX7_firings, Cond.selects RX7 yX7_firings yX7_firings, Cond.code yX7_firings cX7_firings 1 (some .int), Cond.methodLink RL 132 yX7_tick, Cond.instanceMethod yX7_tick, Cond.selects RX7 yX7_tick yX7_tick, Cond.code yX7_tick cX7_tick 1 (some .int)]
def wsL_areAlerts : List Cond := .code yL_areAlerts cL_areAlerts 12 (some .boolean) :: ((wsL_areAlerts_r1 ++ (wsL_areAlerts_r2 ++ (wsL_areAlerts_r3 ++ (wsL_areAlerts_r4 ++ (wsL_areAlerts_r5 ++ (wsL_areAlerts_r6 ++ (wsL_areAlerts_r7 ++ (wsL_areAlerts_r8 ++ wsL_areAlerts_r9)))))))) ++ wsX30 ++ wsX70 ++ wsJx4a65c0 ++ wsX40 ++ wsX60 ++ wsX50 ++ wsX00 ++ wsX10 ++ wsX20 ++ (vx_atM "java/lang/ArrayIndexOutOfBoundsException" ["java/lang/IndexOutOfBoundsException", "java/lang/RuntimeException", "java/lang/Exception"]).filter goodWord ++ (vx_atS RX7 182 "java/util/NoSuchElementException" ["java/lang/RuntimeException", "java/lang/Exception"]).filter goodWord ++ (vx_atS RX7 50 "java/lang/IllegalArgumentException" ["java/lang/RuntimeException", "java/lang/Exception"]).filter goodWord ++ (vx_atS RX7 61 "java/lang/IllegalStateException" ["java/lang/RuntimeException", "java/lang/Exception"]).filter goodWord ++ (vx_atS RX7 310 "java/lang/IndexOutOfBoundsException" ["java/lang/RuntimeException", "java/lang/Exception"]).filter goodWord)
def wsL_areBudgets_r1 : List Cond := [Cond.arrayClass .int, Cond.arrayClass .boolean, Cond.methodLink RL 120 yL_ask, Cond.static yL_ask, Cond.initialized RL, Cond.codeWith yL_ask cL_ask 5 (some .int) [(0, 7, 8, 118), (0, 7, 14, 21), (0, 7, 20, 23), (0, 7, 26, 52)], Cond.classLink RL 118 "java/lang/IndexOutOfBoundsException", Cond.classLink RL 21 "java/lang/IllegalArgumentException", Cond.classLink RL 23 "java/lang/IllegalStateException", Cond.classLink RL 52 "java/util/NoSuchElementException", Cond.methodLink RL 115 yL_asked, Cond.static yL_asked, Cond.code yL_asked cL_asked 4 (some .int), Cond.methodLink RL 54 yX7_stateOf, Cond.instanceMethod yX7_stateOf, Cond.selects RX7 yX7_stateOf yX7_stateOf, Cond.initialized RX7, Cond.code yX7_stateOf cX7_stateOf 2 (some .char), Cond.methodLink RX7 99 yX7_lineNumbered, Cond.instanceMethod yX7_lineNumbered, Cond.selects RX7 yX7_lineNumbered yX7_lineNumbered, Cond.code yX7_lineNumbered cX7_lineNumbered 2 (some (.object "LogWeave$Line")), Cond.classLink RX7 178 "java/util/NoSuchElementException", Cond.initialized "java/util/NoSuchElementException"]
def wsL_areBudgets_r2 : List Cond := [Cond.fieldLink RX7 10 "LogWeave" "lineList" "Ljava/util/ArrayList;", Cond.classLink RX7 74 "LogWeave$Line", Cond.methodLink RX7 53 yJx4a65c_size_8abf5, Cond.instanceMethod yJx4a65c_size_8abf5, Cond.selects RJx4a65c yJx4a65c_size_8abf5 yJx4a65c_size_8abf5, Cond.initialized RJx4a65c, Cond.code yJx4a65c_size_8abf5 cJx4a65c_size_8abf5 1 (some .int), Cond.fieldLink RJx4a65c 48 "java/util/ArrayList" "size" "I", Cond.methodLink RX7 120 yJx4a65c_get_915e3, Cond.instanceMethod yJx4a65c_get_915e3, Cond.selects RJx4a65c yJx4a65c_get_915e3 yJx4a65c_get_915e3, Cond.code yJx4a65c_get_915e3 cJx4a65c_get_915e3 2 (some (.object "java/lang/Object")), Cond.methodLink RJx4a65c 118 yJ15_checkIndex_7cf53, Cond.static yJ15_checkIndex_7cf53, Cond.initialized RJ15, Cond.code yJ15_checkIndex_7cf53 cJ15_checkIndex_7cf53 2 (some .int), Cond.methodLink RJ15 105 yJ3_checkIndex_8e157, Cond.static yJ3_checkIndex_8e157, Cond.initialized RJ3, Cond.code yJ3_checkIndex_8e157 cJ3_checkIndex_8e157 3 (some .int), Cond.methodLink RJx4a65c 123 yJx4a65c_elementData_915e3, Cond.instanceMethod yJx4a65c_elementData_915e3, Cond.selects RJx4a65c yJx4a65c_elementData_915e3 yJx4a65c_elementData_915e3, Cond.code yJx4a65c_elementData_915e3 cJx4a65c_elementData_915e3 2 (some (.object "java/lang/Object"))]
def wsL_areBudgets_r3 : List Cond := [Cond.fieldLink RJx4a65c 9 "java/util/ArrayList" "elementData" "[Ljava/lang/Object;", Cond.methodLink RL 58 yX7_patternOf, Cond.instanceMethod yX7_patternOf, Cond.selects RX7 yX7_patternOf yX7_patternOf, Cond.code yX7_patternOf cX7_patternOf 2 (some .int), Cond.methodLink RL 61 yX7_patterns, Cond.instanceMethod yX7_patterns, Cond.selects RX7 yX7_patterns yX7_patterns, Cond.code yX7_patterns cX7_patterns 5 (some .int), Cond.fieldLink RX7 16 "LogWeave" "patternList" "Ljava/util/ArrayList;", Cond.classLink RX7 112 "LogWeave$Pattern", Cond.methodLink RX7 116 yX7_checkSource, Cond.static yX7_checkSource, Cond.code yX7_checkSource cX7_checkSource 1 none, Cond.classLink RX7 46 "java/lang/IllegalArgumentException", Cond.initialized "java/lang/IllegalArgumentException", Cond.methodLink RX7 32 yX7_isSource, Cond.static yX7_isSource, Cond.code yX7_isSource cX7_isSource 1 (some .boolean), Cond.methodLink RX7 42 yX7_isWithin, Cond.static yX7_isWithin, Cond.code yX7_isWithin cX7_isWithin 3 (some .boolean), Cond.methodLink RL 64 yX7_wordAt, Cond.instanceMethod yX7_wordAt]
def wsL_areBudgets_r4 : List Cond := [Cond.selects RX7 yX7_wordAt yX7_wordAt, Cond.code yX7_wordAt cX7_wordAt 4 (some .int), Cond.methodLink RX7 131 yX7_patternNumbered, Cond.instanceMethod yX7_patternNumbered, Cond.selects RX7 yX7_patternNumbered yX7_patternNumbered, Cond.code yX7_patternNumbered cX7_patternNumbered 3 (some (.object "LogWeave$Pattern")), Cond.methodLink RX7 135 yX7_checkPlace, Cond.static yX7_checkPlace, Cond.code yX7_checkPlace cX7_checkPlace 1 none, Cond.instanceMethod yX6_at, Cond.initialized RX6, Cond.selects RX6 yX6_at yX6_at, Cond.code yX6_at cX6_at 2 (some .int), Cond.fieldLink RX6 9 "LogWeave$Words" "first" "I", Cond.fieldLink RX6 15 "LogWeave$Words" "second" "I", Cond.fieldLink RX6 18 "LogWeave$Words" "third" "I", Cond.methodLink RL 67 yX7_linesOf, Cond.instanceMethod yX7_linesOf, Cond.selects RX7 yX7_linesOf yX7_linesOf, Cond.code yX7_linesOf cX7_linesOf 5 (some .int), Cond.methodLink RL 70 yX7_values, Cond.instanceMethod yX7_values, Cond.selects RX7 yX7_values yX7_values, Cond.code yX7_values cX7_values 11 (some .int)]
def wsL_areBudgets_r5 : List Cond := [Cond.methodLink RX7 146 yJ13_bitCount_95d88, Cond.static yJ13_bitCount_95d88, Cond.initialized RJ13, Cond.code yJ13_bitCount_95d88 cJ13_bitCount_95d88 2 (some .int), Cond.constantLong RJ13 314 (6148914691236517205), Cond.constantLong RJ13 316 (3689348814741910323), Cond.constantLong RJ13 318 (1085102592571150095), Cond.methodLink RL 73 yX7_kept, Cond.instanceMethod yX7_kept, Cond.selects RX7 yX7_kept yX7_kept, Cond.code yX7_kept cX7_kept 2 (some .int), Cond.methodLink RX7 154 yX7_keptBytes, Cond.instanceMethod yX7_keptBytes, Cond.selects RX7 yX7_keptBytes yX7_keptBytes, Cond.code yX7_keptBytes cX7_keptBytes 5 (some .int), Cond.methodLink RL 76 yX7_dropped, Cond.instanceMethod yX7_dropped, Cond.selects RX7 yX7_dropped yX7_dropped, Cond.code yX7_dropped cX7_dropped 5 (some .int), Cond.methodLink RL 79 yX7_answer, Cond.instanceMethod yX7_answer, Cond.selects RX7 yX7_answer yX7_answer, Cond.code yX7_answer cX7_answer 3 (some .int), Cond.classLink RX7 57 "java/lang/IllegalStateException"]
def wsL_areBudgets_r6 : List Cond := [Cond.initialized "java/lang/IllegalStateException", Cond.fieldLink RX7 25 "LogWeave" "requestList" "Ljava/util/ArrayList;", Cond.classLink RX7 173 "LogWeave$Request", Cond.methodLink RL 82 yX7_alertState, Cond.instanceMethod yX7_alertState, Cond.selects RX7 yX7_alertState yX7_alertState, Cond.code yX7_alertState cX7_alertState 2 (some .char), Cond.methodLink RX7 208 yX7_alertNumbered, Cond.instanceMethod yX7_alertNumbered, Cond.selects RX7 yX7_alertNumbered yX7_alertNumbered, Cond.code yX7_alertNumbered cX7_alertNumbered 2 (some (.object "LogWeave$Alert")), Cond.classLink RX7 306 "java/lang/IndexOutOfBoundsException", Cond.initialized "java/lang/IndexOutOfBoundsException", Cond.fieldLink RX7 19 "LogWeave" "alertList" "Ljava/util/ArrayList;", Cond.classLink RX7 195 "LogWeave$Alert", Cond.methodLink RL 85 yX7_counted, Cond.instanceMethod yX7_counted, Cond.selects RX7 yX7_counted yX7_counted, Cond.code yX7_counted cX7_counted 2 (some .int), Cond.methodLink RL 88 yX7_countedAnew, Cond.instanceMethod yX7_countedAnew, Cond.selects RX7 yX7_countedAnew yX7_countedAnew, Cond.code yX7_countedAnew cX7_countedAnew 2 (some .int), Cond.methodLink RX7 216 yX7_countFromAllLines]
def wsL_areBudgets_r7 : List Cond := [Cond.instanceMethod yX7_countFromAllLines, Cond.selects RX7 yX7_countFromAllLines yX7_countFromAllLines, Cond.code yX7_countFromAllLines cX7_countFromAllLines 4 (some .int), Cond.fieldLink RX7 76 "LogWeave" "now" "I", Cond.instanceMethod yX0_counts, Cond.initialized RX0, Cond.selects RX0 yX0_counts yX0_counts, Cond.code yX0_counts cX0_counts 3 (some .boolean), Cond.fieldLink RX0 26 "LogWeave$Alert" "window" "I", Cond.fieldLink RX0 19 "LogWeave$Alert" "filter" "LLogWeave$Filter;", Cond.instanceMethod yX3_cameWithin, Cond.initialized RX3, Cond.selects RX3 yX3_cameWithin yX3_cameWithin, Cond.code yX3_cameWithin cX3_cameWithin 3 (some .boolean), Cond.fieldLink RX3 29 "LogWeave$Line" "came" "I", Cond.instanceMethod yX1_takes, Cond.initialized RX1, Cond.selects RX1 yX1_takes yX1_takes, Cond.code yX1_takes cX1_takes 2 (some .boolean), Cond.fieldLink RX1 9 "LogWeave$Filter" "source" "I", Cond.fieldLink RX1 15 "LogWeave$Filter" "leastRank" "I", Cond.fieldLink RX1 18 "LogWeave$Filter" "place" "I", Cond.fieldLink RX1 21 "LogWeave$Filter" "word" "I", Cond.methodLink RL 91 yX7_heldFor]
def wsL_areBudgets_r8 : List Cond := [Cond.instanceMethod yX7_heldFor, Cond.selects RX7 yX7_heldFor yX7_heldFor, Cond.code yX7_heldFor cX7_heldFor 2 (some .int), Cond.methodLink RL 94 yX7_alertOf, Cond.instanceMethod yX7_alertOf, Cond.selects RX7 yX7_alertOf yX7_alertOf, Cond.code yX7_alertOf cX7_alertOf 2 (some .int), Cond.methodLink RX7 223 yX7_firingNumbered, Cond.instanceMethod yX7_firingNumbered, Cond.selects RX7 yX7_firingNumbered yX7_firingNumbered, Cond.code yX7_firingNumbered cX7_firingNumbered 2 (some (.object "LogWeave$Firing")), Cond.fieldLink RX7 22 "LogWeave" "firingList" "Ljava/util/ArrayList;", Cond.classLink RX7 228 "LogWeave$Firing", Cond.methodLink RL 97 yX7_firedAt, Cond.instanceMethod yX7_firedAt, Cond.selects RX7 yX7_firedAt yX7_firedAt, Cond.code yX7_firedAt cX7_firedAt 2 (some .int), Cond.methodLink RL 100 yX7_ground, Cond.instanceMethod yX7_ground, Cond.selects RX7 yX7_ground yX7_ground, Cond.code yX7_ground cX7_ground 2 (some .int), Cond.methodLink RL 103 yX7_standsOn, Cond.instanceMethod yX7_standsOn, Cond.selects RX7 yX7_standsOn yX7_standsOn]
def wsL_areBudgets_r9 : List Cond := [Cond.code yX7_standsOn cX7_standsOn 4 (some .boolean), Cond.instanceMethod yX2_hasLine, Cond.initialized RX2, Cond.selects RX2 yX2_hasLine yX2_hasLine, Cond.code yX2_hasLine cX2_hasLine 2 (some .boolean), Cond.fieldLink RX2 9 "LogWeave$Firing" "onLines" "[J", Cond.methodLink RL 107 yL_told, Cond.static yL_told, Cond.code yL_told cL_told 1 (some .int), Cond.methodLink RL 111 yX7_isGuarded, Cond.instanceMethod yX7_isGuarded, Cond.selects RX7 yX7_isGuarded yX7_isGuarded, Cond.code yX7_isGuarded cX7_isGuarded 2 (some .boolean), Cond.methodLink RL 135 yX7_bytes, Cond.instanceMethod yX7_bytes, Cond.selects RX7 yX7_bytes yX7_bytes, Cond.code yX7_bytes cX7_bytes 4 (some .long), Cond.methodLink RL 139 yX7_lines, Cond.instanceMethod yX7_lines, Cond.selects RX7 yX7_lines yX7_lines, Cond.code yX7_lines cX7_lines 1 (some .int), Cond.methodLink RL 142 yX7_droppedShare, Cond.instanceMethod yX7_droppedShare, Cond.selects RX7 yX7_droppedShare yX7_droppedShare]
def wsL_areBudgets_r10 : List Cond := [Cond.code yX7_droppedShare cX7_droppedShare 4 (some .float), Cond.classLink RX7 276 "java/lang/ArithmeticException", Cond.initialized "java/lang/ArithmeticException", Cond.methodLink RL 146 yX7_isSound, Cond.instanceMethod yX7_isSound, Cond.selects RX7 yX7_isSound yX7_isSound, Cond.code yX7_isSound cX7_isSound 1 (some .boolean), Cond.methodLink RX7 286 yX7_countsAreSound, Cond.instanceMethod yX7_countsAreSound, Cond.selects RX7 yX7_countsAreSound yX7_countsAreSound, Cond.code yX7_countsAreSound cX7_countsAreSound 3 (some .boolean), Cond.methodLink RX7 290 yX7_firingsAreSound, Cond.instanceMethod yX7_firingsAreSound, Cond.selects RX7 yX7_firingsAreSound yX7_firingsAreSound, Cond.code yX7_firingsAreSound cX7_firingsAreSound 2 (some .boolean), Cond.methodLink RX7 401 yX7_someFiringHas, Cond.instanceMethod yX7_someFiringHas, Cond.selects RX7 yX7_someFiringHas yX7_someFiringHas, Cond.code yX7_someFiringHas cX7_someFiringHas 3 (some .boolean), Cond.methodLink RX7 293 yX7_patternsAreSound, Cond.instanceMethod yX7_patternsAreSound, Cond.selects RX7 yX7_patternsAreSound yX7_patternsAreSound, Cond.code yX7_patternsAreSound cX7_patternsAreSound 3 (some .boolean), Cond.instanceMethod yX4_suits]
def wsL_areBudgets_r11 : List Cond := [Cond.initialized RX4, Cond.selects RX4 yX4_suits yX4_suits, Cond.code yX4_suits cX4_suits 4 (some .boolean), Cond.fieldLink RX4 15 "LogWeave$Pattern" "source" "I", Cond.fieldLink RX4 18 "LogWeave$Pattern" "words" "LLogWeave$Words;"]
def wsL_areBudgets : List Cond := .code yL_areBudgets cL_areBudgets 14 (some .boolean) :: ((wsL_areBudgets_r1 ++ (wsL_areBudgets_r2 ++ (wsL_areBudgets_r3 ++ (wsL_areBudgets_r4 ++ (wsL_areBudgets_r5 ++ (wsL_areBudgets_r6 ++ (wsL_areBudgets_r7 ++ (wsL_areBudgets_r8 ++ (wsL_areBudgets_r9 ++ (wsL_areBudgets_r10 ++ wsL_areBudgets_r11)))))))))) ++ wsX30 ++ wsX70 ++ wsJx4a65c0 ++ wsX40 ++ wsX60 ++ wsX50 ++ wsX00 ++ wsX10 ++ wsX20 ++ (vx_atM "java/lang/ArrayIndexOutOfBoundsException" ["java/lang/IndexOutOfBoundsException", "java/lang/RuntimeException", "java/lang/Exception"]).filter goodWord ++ (vx_atS RX7 182 "java/util/NoSuchElementException" ["java/lang/RuntimeException", "java/lang/Exception"]).filter goodWord ++ (vx_atS RX7 50 "java/lang/IllegalArgumentException" ["java/lang/RuntimeException", "java/lang/Exception"]).filter goodWord ++ (vx_atS RX7 61 "java/lang/IllegalStateException" ["java/lang/RuntimeException", "java/lang/Exception"]).filter goodWord ++ (vx_atS RX7 310 "java/lang/IndexOutOfBoundsException" ["java/lang/RuntimeException", "java/lang/Exception"]).filter goodWord ++ (vx_atS RX7 280 "java/lang/ArithmeticException" ["java/lang/RuntimeException", "java/lang/Exception"]).filter goodWord)
def wsL_law0_r1 : List Cond := [Cond.classLink RL 16 RX7, Cond.instantiable RX7 7, Cond.initialized RX7, Cond.arrayClass .int, Cond.methodLink RL 163 Lib.Math.min.name, Cond.static Lib.Math.min.name, Cond.initialized "java/lang/Math", Cond.code Lib.Math.min.name Lib.Math.min.code 2 (some .int), Cond.methodLink RL 150 yX7_init, Cond.instanceMethod yX7_init, Cond.code yX7_init cX7_init 1 none, Cond.methodLink RX7 1 objectInit, Cond.instanceMethod objectInit, Cond.code objectInit ⟨#[0xb1]⟩ 1 none, Cond.classLink RX7 7 RJx4a65c, Cond.instantiable RJx4a65c 3, Cond.initialized RJx4a65c, Cond.fieldLink RX7 10 "LogWeave" "lineList" "Ljava/util/ArrayList;", Cond.fieldLink RX7 16 "LogWeave" "patternList" "Ljava/util/ArrayList;", Cond.fieldLink RX7 19 "LogWeave" "alertList" "Ljava/util/ArrayList;", Cond.fieldLink RX7 22 "LogWeave" "firingList" "Ljava/util/ArrayList;", Cond.fieldLink RX7 25 "LogWeave" "requestList" "Ljava/util/ArrayList;", Cond.fieldLink RX7 28 "LogWeave" "budgets" "[I", Cond.methodLink RX7 9 yJx4a65c_init_da8c8]
def wsL_law0_r2 : List Cond := [Cond.instanceMethod yJx4a65c_init_da8c8, Cond.code yJx4a65c_init_da8c8 cJx4a65c_init_da8c8 1 none, Cond.fieldLink RJx4a65c 39 "java/util/ArrayList" "DEFAULTCAPACITY_EMPTY_ELEMENTDATA" "[Ljava/lang/Object;", Cond.fieldLink RJx4a65c 9 "java/util/ArrayList" "elementData" "[Ljava/lang/Object;", Cond.methodLink RJx4a65c 1 yJxc12de_init_da8c8, Cond.instanceMethod yJxc12de_init_da8c8, Cond.initialized RJxc12de, Cond.code yJxc12de_init_da8c8 cJxc12de_init_da8c8 1 none, Cond.fieldLink RJxc12de 7 "java/util/AbstractList" "modCount" "I", Cond.methodLink RJxc12de 1 yJxa1e45_init_da8c8, Cond.instanceMethod yJxa1e45_init_da8c8, Cond.initialized RJxa1e45, Cond.code yJxa1e45_init_da8c8 cJxa1e45_init_da8c8 1 none, Cond.methodLink RJxa1e45 1 objectInit, Cond.methodLink RL 151 yL_pick, Cond.static yL_pick, Cond.initialized RL, Cond.code yL_pick cL_pick 3 (some .int), Cond.methodLink RL 9 yL_cell, Cond.static yL_cell, Cond.code yL_cell cL_cell 3 (some .int), Cond.constant RL 7 (69069), Cond.constant RL 8 (1103515245), Cond.methodLink RL 132 yX7_tick]
def wsL_law0_r3 : List Cond := [Cond.instanceMethod yX7_tick, Cond.selects RX7 yX7_tick yX7_tick, Cond.code yX7_tick cX7_tick 1 (some .int), Cond.fieldLink RX7 76 "LogWeave" "now" "I", Cond.methodLink RL 155 yL_line, Cond.static yL_line, Cond.codeWith yL_line cL_line 8 (some .int) [(0, 13, 14, 21), (0, 13, 20, 23)], Cond.classLink RL 21 "java/lang/IllegalArgumentException", Cond.classLink RL 23 "java/lang/IllegalStateException", Cond.methodLink RL 15 yX7_addLine, Cond.instanceMethod yX7_addLine, Cond.selects RX7 yX7_addLine yX7_addLine, Cond.code yX7_addLine cX7_addLine 12 (some .int), Cond.classLink RX7 46 "java/lang/IllegalArgumentException", Cond.initialized "java/lang/IllegalArgumentException", Cond.classLink RX7 57 "java/lang/IllegalStateException", Cond.initialized "java/lang/IllegalStateException", Cond.classLink RX7 62 RX6, Cond.instantiable RX6 3, Cond.initialized RX6, Cond.classLink RX7 74 RX3, Cond.instantiable RX3 8, Cond.initialized RX3, Cond.methodLink RX7 32 yX7_isSource]
def wsL_law0_r4 : List Cond := [Cond.static yX7_isSource, Cond.code yX7_isSource cX7_isSource 1 (some .boolean), Cond.methodLink RX7 42 yX7_isWithin, Cond.static yX7_isWithin, Cond.code yX7_isWithin cX7_isWithin 3 (some .boolean), Cond.methodLink RX7 36 yX7_isRank, Cond.static yX7_isRank, Cond.code yX7_isRank cX7_isRank 1 (some .boolean), Cond.methodLink RX7 39 yX7_isWord, Cond.static yX7_isWord, Cond.code yX7_isWord cX7_isWord 1 (some .boolean), Cond.methodLink RX7 53 yJx4a65c_size_8abf5, Cond.instanceMethod yJx4a65c_size_8abf5, Cond.selects RJx4a65c yJx4a65c_size_8abf5 yJx4a65c_size_8abf5, Cond.code yJx4a65c_size_8abf5 cJx4a65c_size_8abf5 1 (some .int), Cond.fieldLink RJx4a65c 48 "java/util/ArrayList" "size" "I", Cond.instanceMethod yX6_init, Cond.code yX6_init cX6_init 4 none, Cond.methodLink RX6 3 objectInit, Cond.fieldLink RX6 9 "LogWeave$Words" "first" "I", Cond.fieldLink RX6 15 "LogWeave$Words" "second" "I", Cond.fieldLink RX6 18 "LogWeave$Words" "third" "I", Cond.methodLink RX7 67 yX7_patternFor, Cond.instanceMethod yX7_patternFor]
def wsL_law0_r5 : List Cond := [Cond.selects RX7 yX7_patternFor yX7_patternFor, Cond.code yX7_patternFor cX7_patternFor 5 (some (.object "LogWeave$Pattern")), Cond.classLink RX7 112 "LogWeave$Pattern", Cond.methodLink RX7 120 yJx4a65c_get_915e3, Cond.instanceMethod yJx4a65c_get_915e3, Cond.selects RJx4a65c yJx4a65c_get_915e3 yJx4a65c_get_915e3, Cond.code yJx4a65c_get_915e3 cJx4a65c_get_915e3 2 (some (.object "java/lang/Object")), Cond.methodLink RJx4a65c 118 yJ15_checkIndex_7cf53, Cond.static yJ15_checkIndex_7cf53, Cond.initialized RJ15, Cond.code yJ15_checkIndex_7cf53 cJ15_checkIndex_7cf53 2 (some .int), Cond.methodLink RJ15 105 yJ3_checkIndex_8e157, Cond.static yJ3_checkIndex_8e157, Cond.initialized RJ3, Cond.code yJ3_checkIndex_8e157 cJ3_checkIndex_8e157 3 (some .int), Cond.methodLink RJx4a65c 123 yJx4a65c_elementData_915e3, Cond.instanceMethod yJx4a65c_elementData_915e3, Cond.selects RJx4a65c yJx4a65c_elementData_915e3 yJx4a65c_elementData_915e3, Cond.code yJx4a65c_elementData_915e3 cJx4a65c_elementData_915e3 2 (some (.object "java/lang/Object")), Cond.instanceMethod yX4_suits, Cond.initialized RX4, Cond.selects RX4 yX4_suits yX4_suits, Cond.code yX4_suits cX4_suits 4 (some .boolean), Cond.fieldLink RX4 15 "LogWeave$Pattern" "source" "I"]
def wsL_law0_r6 : List Cond := [Cond.fieldLink RX4 18 "LogWeave$Pattern" "words" "LLogWeave$Words;", Cond.instanceMethod yX6_at, Cond.selects RX6 yX6_at yX6_at, Cond.code yX6_at cX6_at 2 (some .int), Cond.methodLink RX7 71 yX7_learn, Cond.instanceMethod yX7_learn, Cond.selects RX7 yX7_learn yX7_learn, Cond.code yX7_learn cX7_learn 5 (some (.object "LogWeave$Pattern")), Cond.classLink RX7 112 RX4, Cond.instantiable RX4 4, Cond.instanceMethod yX4_init, Cond.code yX4_init cX4_init 4 none, Cond.methodLink RX4 3 objectInit, Cond.fieldLink RX4 9 "LogWeave$Pattern" "number" "I", Cond.methodLink RX7 83 yJx4a65c_add_9ea2d, Cond.instanceMethod yJx4a65c_add_9ea2d, Cond.selects RJx4a65c yJx4a65c_add_9ea2d yJx4a65c_add_9ea2d, Cond.code yJx4a65c_add_9ea2d cJx4a65c_add_9ea2d 2 (some .boolean), Cond.fieldLink RJx4a65c 63 "java/util/ArrayList" "modCount" "I", Cond.sameField "java/util/ArrayList" "java/util/AbstractList" "modCount" "I", Cond.methodLink RJx4a65c 131 yJx4a65c_add_72be8, Cond.instanceMethod yJx4a65c_add_72be8, Cond.selects RJx4a65c yJx4a65c_add_72be8 yJx4a65c_add_72be8, Cond.code yJx4a65c_add_72be8 cJx4a65c_add_72be8 4 none]
def wsL_law0_r7 : List Cond := [Cond.methodLink RJx4a65c 129 yJx4a65c_grow_d5877, Cond.instanceMethod yJx4a65c_grow_d5877, Cond.selects RJx4a65c yJx4a65c_grow_d5877 yJx4a65c_grow_d5877, Cond.code yJx4a65c_grow_d5877 cJx4a65c_grow_d5877 1 (some (.array (.object "java/lang/Object"))), Cond.methodLink RJx4a65c 69 yJx4a65c_grow_92f84, Cond.instanceMethod yJx4a65c_grow_92f84, Cond.selects RJx4a65c yJx4a65c_grow_92f84 yJx4a65c_grow_92f84, Cond.code yJx4a65c_grow_92f84 cJx4a65c_grow_92f84 4 (some (.array (.object "java/lang/Object"))), Cond.methodLink RJx4a65c 79 Lib.Math.max.name, Cond.static Lib.Math.max.name, Cond.code Lib.Math.max.name Lib.Math.max.code 2 (some .int), Cond.classLink RJx4a65c 7 "java/lang/Object", Cond.methodLink RJx4a65c 73 yJ8_newLength_cabcc, Cond.static yJ8_newLength_cabcc, Cond.initialized RJ8, Cond.code yJ8_newLength_cabcc cJ8_newLength_cabcc 4 (some .int), Cond.methodLink RJ8 194 Lib.Math.max.name, Cond.constant RJ8 200 (2147483639), Cond.methodLink RJ8 201 yJ8_hugeLength_7cf53, Cond.static yJ8_hugeLength_7cf53, Cond.code yJ8_hugeLength_7cf53 cJ8_hugeLength_7cf53 3 (some .int), Cond.methodLink RJx4a65c 66 yJ7_copyOf_1904c, Cond.static yJ7_copyOf_1904c, Cond.initialized RJ7]
def wsL_law0_r8 : List Cond := [Cond.code yJ7_copyOf_1904c cJ7_copyOf_1904c 2 (some (.array (.object "java/lang/Object"))), Cond.methodLink RJ7 86 ⟨"java/lang/Object", "getClass", "()Ljava/lang/Class;"⟩, Cond.selects "[Ljava/lang/Object;" ⟨"java/lang/Object", "getClass", "()Ljava/lang/Class;"⟩ ⟨"java/lang/Object", "getClass", "()Ljava/lang/Class;"⟩, Cond.instanceMethod ⟨"java/lang/Object", "getClass", "()Ljava/lang/Class;"⟩, Cond.native ⟨"java/lang/Object", "getClass", "()Ljava/lang/Class;"⟩, Cond.methodLink RJ7 300 yJ7_copyOf_6403c, Cond.static yJ7_copyOf_6403c, Cond.code yJ7_copyOf_6403c cJ7_copyOf_6403c 4 (some (.array (.object "java/lang/Object"))), Cond.classLink RJ7 110 "[Ljava/lang/Object;", Cond.classLink RJ7 2 "java/lang/Object", Cond.methodLink RJ7 304 Lib.Math.min.name, Cond.methodLink RJ7 150 arraycopyName, Cond.native arraycopyName, Cond.static arraycopyName, Cond.initialized "java/lang/System", Cond.instanceMethod yX3_init, Cond.code yX3_init cX3_init 7 none, Cond.methodLink RX3 3 objectInit, Cond.fieldLink RX3 9 "LogWeave$Line" "state" "C", Cond.fieldLink RX3 15 "LogWeave$Line" "source" "I", Cond.fieldLink RX3 19 "LogWeave$Line" "rank" "I", Cond.fieldLink RX3 22 "LogWeave$Line" "words" "LLogWeave$Words;", Cond.fieldLink RX3 26 "LogWeave$Line" "bytes" "I", Cond.fieldLink RX3 29 "LogWeave$Line" "came" "I"]
def wsL_law0_r9 : List Cond := [Cond.fieldLink RX3 32 "LogWeave$Line" "pattern" "LLogWeave$Pattern;", Cond.methodLink RX7 87 yX7_mergeFrom, Cond.instanceMethod yX7_mergeFrom, Cond.selects RX7 yX7_mergeFrom yX7_mergeFrom, Cond.code yX7_mergeFrom cX7_mergeFrom 5 none, Cond.methodLink RX7 329 yX7_partnerOf, Cond.instanceMethod yX7_partnerOf, Cond.selects RX7 yX7_partnerOf yX7_partnerOf, Cond.code yX7_partnerOf cX7_partnerOf 4 (some (.object "LogWeave$Pattern")), Cond.instanceMethod yX6_differences, Cond.selects RX6 yX6_differences yX6_differences, Cond.code yX6_differences cX6_differences 4 (some .int), Cond.methodLink RX6 21 yX6_at, Cond.methodLink RX7 333 yX7_merge, Cond.instanceMethod yX7_merge, Cond.selects RX7 yX7_merge yX7_merge, Cond.code yX7_merge cX7_merge 5 none, Cond.classLink RX7 74 "LogWeave$Line", Cond.instanceMethod yX6_put, Cond.selects RX6 yX6_put yX6_put, Cond.code yX6_put cX6_put 3 none, Cond.methodLink RX7 91 yX7_showToAlerts, Cond.instanceMethod yX7_showToAlerts, Cond.selects RX7 yX7_showToAlerts yX7_showToAlerts]
def wsL_law0_r10 : List Cond := [Cond.code yX7_showToAlerts cX7_showToAlerts 4 none, Cond.classLink RX7 195 "LogWeave$Alert", Cond.methodLink RX7 200 yX7_countIfDue, Cond.instanceMethod yX7_countIfDue, Cond.selects RX7 yX7_countIfDue yX7_countIfDue, Cond.code yX7_countIfDue cX7_countIfDue 3 none, Cond.instanceMethod yX0_counts, Cond.initialized RX0, Cond.selects RX0 yX0_counts yX0_counts, Cond.code yX0_counts cX0_counts 3 (some .boolean), Cond.fieldLink RX0 26 "LogWeave$Alert" "window" "I", Cond.fieldLink RX0 19 "LogWeave$Alert" "filter" "LLogWeave$Filter;", Cond.instanceMethod yX3_cameWithin, Cond.selects RX3 yX3_cameWithin yX3_cameWithin, Cond.code yX3_cameWithin cX3_cameWithin 3 (some .boolean), Cond.instanceMethod yX1_takes, Cond.initialized RX1, Cond.selects RX1 yX1_takes yX1_takes, Cond.code yX1_takes cX1_takes 2 (some .boolean), Cond.fieldLink RX1 9 "LogWeave$Filter" "source" "I", Cond.fieldLink RX1 15 "LogWeave$Filter" "leastRank" "I", Cond.fieldLink RX1 18 "LogWeave$Filter" "place" "I", Cond.fieldLink RX1 21 "LogWeave$Filter" "word" "I", Cond.methodLink RX7 204 yX7_lookAtAlert]
def wsL_law0_r11 : List Cond := [Cond.instanceMethod yX7_lookAtAlert, Cond.selects RX7 yX7_lookAtAlert yX7_lookAtAlert, Cond.code yX7_lookAtAlert cX7_lookAtAlert 2 none, Cond.classLink RX7 228 RX2, Cond.instantiable RX2 5, Cond.initialized RX2, Cond.instanceMethod yX2_init, Cond.code yX2_init cX2_init 3 none, Cond.methodLink RX2 3 objectInit, Cond.arrayClass .long, Cond.fieldLink RX2 9 "LogWeave$Firing" "onLines" "[J", Cond.fieldLink RX2 15 "LogWeave$Firing" "alert" "LLogWeave$Alert;", Cond.fieldLink RX2 19 "LogWeave$Firing" "began" "I", Cond.methodLink RX7 355 yX7_standOnCounted, Cond.instanceMethod yX7_standOnCounted, Cond.selects RX7 yX7_standOnCounted yX7_standOnCounted, Cond.code yX7_standOnCounted cX7_standOnCounted 5 none, Cond.instanceMethod yX2_hasLine, Cond.selects RX2 yX2_hasLine yX2_hasLine, Cond.code yX2_hasLine cX2_hasLine 2 (some .boolean), Cond.instanceMethod yX2_putLine, Cond.selects RX2 yX2_putLine yX2_putLine, Cond.code yX2_putLine cX2_putLine 2 none, Cond.fieldLink RX2 27 "LogWeave$Firing" "size" "I"]
def wsL_law0_r12 : List Cond := [Cond.methodLink RX2 23 yX2_hasLine, Cond.methodLink RX7 95 yX7_lookAtSource, Cond.instanceMethod yX7_lookAtSource, Cond.selects RX7 yX7_lookAtSource yX7_lookAtSource, Cond.code yX7_lookAtSource cX7_lookAtSource 5 (some .int), Cond.methodLink RX7 154 yX7_keptBytes, Cond.instanceMethod yX7_keptBytes, Cond.selects RX7 yX7_keptBytes yX7_keptBytes, Cond.code yX7_keptBytes cX7_keptBytes 5 (some .int), Cond.methodLink RX7 374 yX7_nextToDrop, Cond.instanceMethod yX7_nextToDrop, Cond.selects RX7 yX7_nextToDrop yX7_nextToDrop, Cond.code yX7_nextToDrop cX7_nextToDrop 5 (some (.object "LogWeave$Line")), Cond.methodLink RL 159 yL_alert, Cond.static yL_alert, Cond.codeWith yL_alert cL_alert 4 (some .int) [(0, 38, 39, 21), (0, 38, 44, 23)], Cond.methodLink RL 25 yX7_addAlert, Cond.instanceMethod yX7_addAlert, Cond.selects RX7 yX7_addAlert yX7_addAlert, Cond.code yX7_addAlert cX7_addAlert 11 (some .int), Cond.classLink RX7 195 RX0, Cond.instantiable RX0 9, Cond.classLink RX7 164 RX1, Cond.instantiable RX1 4]
def wsL_law0_r13 : List Cond := [Cond.instanceMethod yX1_init, Cond.code yX1_init cX1_init 5 none, Cond.methodLink RX1 3 objectInit, Cond.instanceMethod yX0_init, Cond.code yX0_init cX0_init 6 none, Cond.methodLink RX0 3 objectInit, Cond.fieldLink RX0 9 "LogWeave$Alert" "state" "C", Cond.fieldLink RX0 15 "LogWeave$Alert" "number" "I", Cond.fieldLink RX0 23 "LogWeave$Alert" "goal" "I", Cond.fieldLink RX0 29 "LogWeave$Alert" "hold" "I", Cond.methodLink RL 166 yL_deed, Cond.static yL_deed, Cond.codeWith yL_deed cL_deed 5 (some .int) [(0, 7, 8, 21), (0, 7, 14, 23), (0, 7, 20, 50), (0, 7, 26, 52)], Cond.classLink RL 50 "java/lang/UnsupportedOperationException", Cond.classLink RL 52 "java/util/NoSuchElementException", Cond.methodLink RL 46 yL_plain, Cond.static yL_plain, Cond.code yL_plain cL_plain 4 (some .int), Cond.methodLink RL 29 yX7_setBudget, Cond.instanceMethod yX7_setBudget, Cond.selects RX7 yX7_setBudget yX7_setBudget, Cond.code yX7_setBudget cX7_setBudget 3 (some .int), Cond.methodLink RX7 116 yX7_checkSource, Cond.static yX7_checkSource]
def wsL_law0_r14 : List Cond := [Cond.code yX7_checkSource cX7_checkSource 1 none, Cond.methodLink RL 33 yX7_archive, Cond.instanceMethod yX7_archive, Cond.selects RX7 yX7_archive yX7_archive, Cond.code yX7_archive cX7_archive 3 (some .int), Cond.methodLink RX7 99 yX7_lineNumbered, Cond.instanceMethod yX7_lineNumbered, Cond.selects RX7 yX7_lineNumbered yX7_lineNumbered, Cond.code yX7_lineNumbered cX7_lineNumbered 2 (some (.object "LogWeave$Line")), Cond.classLink RX7 178 "java/util/NoSuchElementException", Cond.initialized "java/util/NoSuchElementException", Cond.methodLink RL 37 yX7_request, Cond.instanceMethod yX7_request, Cond.selects RX7 yX7_request yX7_request, Cond.code yX7_request cX7_request 5 (some .int), Cond.classLink RX7 173 RX5, Cond.instantiable RX5 4, Cond.initialized RX5, Cond.methodLink RX7 169 yX7_archivedLines, Cond.instanceMethod yX7_archivedLines, Cond.selects RX7 yX7_archivedLines yX7_archivedLines, Cond.code yX7_archivedLines cX7_archivedLines 5 (some .int), Cond.instanceMethod yX5_init, Cond.code yX5_init cX5_init 3 none]
def wsL_law0_r15 : List Cond := [Cond.methodLink RX5 1 objectInit, Cond.fieldLink RX5 7 "LogWeave$Request" "filter" "LLogWeave$Filter;", Cond.fieldLink RX5 13 "LogWeave$Request" "due" "I", Cond.methodLink RL 40 yX7_release, Cond.instanceMethod yX7_release, Cond.selects RX7 yX7_release yX7_release, Cond.code yX7_release cX7_release 3 (some .int), Cond.classLink RX7 251 "java/lang/UnsupportedOperationException", Cond.initialized "java/lang/UnsupportedOperationException", Cond.methodLink RX7 223 yX7_firingNumbered, Cond.instanceMethod yX7_firingNumbered, Cond.selects RX7 yX7_firingNumbered yX7_firingNumbered, Cond.code yX7_firingNumbered cX7_firingNumbered 2 (some (.object "LogWeave$Firing")), Cond.classLink RX7 228 "LogWeave$Firing", Cond.methodLink RX7 256 yX7_giveUpLines, Cond.instanceMethod yX7_giveUpLines, Cond.selects RX7 yX7_giveUpLines yX7_giveUpLines, Cond.code yX7_giveUpLines cX7_giveUpLines 3 none, Cond.instanceMethod yX2_clearLines, Cond.selects RX2 yX2_clearLines yX2_clearLines, Cond.code yX2_clearLines cX2_clearLines 2 none, Cond.methodLink RX7 260 yX7_lookAtAllSources, Cond.instanceMethod yX7_lookAtAllSources, Cond.selects RX7 yX7_lookAtAllSources yX7_lookAtAllSources]
def wsL_law0_r16 : List Cond := [Cond.code yX7_lookAtAllSources cX7_lookAtAllSources 3 (some .int), Cond.methodLink RL 43 yX7_pass, Cond.instanceMethod yX7_pass, Cond.selects RX7 yX7_pass yX7_pass, Cond.code yX7_pass cX7_pass 4 (some .int), Cond.methodLink RX7 270 yX7_passOneTick, Cond.instanceMethod yX7_passOneTick, Cond.selects RX7 yX7_passOneTick yX7_passOneTick, Cond.code yX7_passOneTick cX7_passOneTick 3 (some .int), Cond.methodLink RX7 377 yX7_forgetLeavers, Cond.instanceMethod yX7_forgetLeavers, Cond.selects RX7 yX7_forgetLeavers yX7_forgetLeavers, Cond.code yX7_forgetLeavers cX7_forgetLeavers 5 none, Cond.instanceMethod yX0_shortenHold, Cond.selects RX0 yX0_shortenHold yX0_shortenHold, Cond.code yX0_shortenHold cX0_shortenHold 1 none, Cond.fieldLink RX0 45 "LogWeave$Alert" "heldTicks" "I", Cond.methodLink RX7 383 yX7_answerRequests, Cond.instanceMethod yX7_answerRequests, Cond.selects RX7 yX7_answerRequests yX7_answerRequests, Cond.code yX7_answerRequests cX7_answerRequests 3 none, Cond.classLink RX7 173 "LogWeave$Request", Cond.methodLink RL 120 yL_ask, Cond.static yL_ask]
def wsL_law0_r17 : List Cond := [Cond.codeWith yL_ask cL_ask 5 (some .int) [(0, 7, 8, 118), (0, 7, 14, 21), (0, 7, 20, 23), (0, 7, 26, 52)], Cond.classLink RL 118 "java/lang/IndexOutOfBoundsException", Cond.methodLink RL 115 yL_asked, Cond.static yL_asked, Cond.code yL_asked cL_asked 4 (some .int), Cond.methodLink RL 54 yX7_stateOf, Cond.instanceMethod yX7_stateOf, Cond.selects RX7 yX7_stateOf yX7_stateOf, Cond.code yX7_stateOf cX7_stateOf 2 (some .char), Cond.methodLink RL 58 yX7_patternOf, Cond.instanceMethod yX7_patternOf, Cond.selects RX7 yX7_patternOf yX7_patternOf, Cond.code yX7_patternOf cX7_patternOf 2 (some .int), Cond.methodLink RL 61 yX7_patterns, Cond.instanceMethod yX7_patterns, Cond.selects RX7 yX7_patterns yX7_patterns, Cond.code yX7_patterns cX7_patterns 5 (some .int), Cond.methodLink RL 64 yX7_wordAt, Cond.instanceMethod yX7_wordAt, Cond.selects RX7 yX7_wordAt yX7_wordAt, Cond.code yX7_wordAt cX7_wordAt 4 (some .int), Cond.methodLink RX7 131 yX7_patternNumbered, Cond.instanceMethod yX7_patternNumbered, Cond.selects RX7 yX7_patternNumbered yX7_patternNumbered]
def wsL_law0_r18 : List Cond := [Cond.code yX7_patternNumbered cX7_patternNumbered 3 (some (.object "LogWeave$Pattern")), Cond.methodLink RX7 135 yX7_checkPlace, Cond.static yX7_checkPlace, Cond.code yX7_checkPlace cX7_checkPlace 1 none, Cond.methodLink RL 67 yX7_linesOf, Cond.instanceMethod yX7_linesOf, Cond.selects RX7 yX7_linesOf yX7_linesOf, Cond.code yX7_linesOf cX7_linesOf 5 (some .int), Cond.methodLink RL 70 yX7_values, Cond.instanceMethod yX7_values, Cond.selects RX7 yX7_values yX7_values, Cond.code yX7_values cX7_values 11 (some .int), Cond.methodLink RX7 146 yJ13_bitCount_95d88, Cond.static yJ13_bitCount_95d88, Cond.initialized RJ13, Cond.code yJ13_bitCount_95d88 cJ13_bitCount_95d88 2 (some .int), Cond.constantLong RJ13 314 (6148914691236517205), Cond.constantLong RJ13 316 (3689348814741910323), Cond.constantLong RJ13 318 (1085102592571150095), Cond.methodLink RL 73 yX7_kept, Cond.instanceMethod yX7_kept, Cond.selects RX7 yX7_kept yX7_kept, Cond.code yX7_kept cX7_kept 2 (some .int), Cond.methodLink RL 76 yX7_dropped]
def wsL_law0_r19 : List Cond := [Cond.instanceMethod yX7_dropped, Cond.selects RX7 yX7_dropped yX7_dropped, Cond.code yX7_dropped cX7_dropped 5 (some .int), Cond.methodLink RL 79 yX7_answer, Cond.instanceMethod yX7_answer, Cond.selects RX7 yX7_answer yX7_answer, Cond.code yX7_answer cX7_answer 3 (some .int), Cond.methodLink RL 82 yX7_alertState, Cond.instanceMethod yX7_alertState, Cond.selects RX7 yX7_alertState yX7_alertState, Cond.code yX7_alertState cX7_alertState 2 (some .char), Cond.methodLink RX7 208 yX7_alertNumbered, Cond.instanceMethod yX7_alertNumbered, Cond.selects RX7 yX7_alertNumbered yX7_alertNumbered, Cond.code yX7_alertNumbered cX7_alertNumbered 2 (some (.object "LogWeave$Alert")), Cond.classLink RX7 306 "java/lang/IndexOutOfBoundsException", Cond.initialized "java/lang/IndexOutOfBoundsException", Cond.methodLink RL 85 yX7_counted, Cond.instanceMethod yX7_counted, Cond.selects RX7 yX7_counted yX7_counted, Cond.code yX7_counted cX7_counted 2 (some .int), Cond.methodLink RL 88 yX7_countedAnew, Cond.instanceMethod yX7_countedAnew, Cond.selects RX7 yX7_countedAnew yX7_countedAnew]
def wsL_law0_r20 : List Cond := [Cond.code yX7_countedAnew cX7_countedAnew 2 (some .int), Cond.methodLink RX7 216 yX7_countFromAllLines, Cond.instanceMethod yX7_countFromAllLines, Cond.selects RX7 yX7_countFromAllLines yX7_countFromAllLines, Cond.code yX7_countFromAllLines cX7_countFromAllLines 4 (some .int), Cond.methodLink RL 91 yX7_heldFor, Cond.instanceMethod yX7_heldFor, Cond.selects RX7 yX7_heldFor yX7_heldFor, Cond.code yX7_heldFor cX7_heldFor 2 (some .int), Cond.methodLink RL 94 yX7_alertOf, Cond.instanceMethod yX7_alertOf, Cond.selects RX7 yX7_alertOf yX7_alertOf, Cond.code yX7_alertOf cX7_alertOf 2 (some .int), Cond.methodLink RL 97 yX7_firedAt, Cond.instanceMethod yX7_firedAt, Cond.selects RX7 yX7_firedAt yX7_firedAt, Cond.code yX7_firedAt cX7_firedAt 2 (some .int), Cond.methodLink RL 100 yX7_ground, Cond.instanceMethod yX7_ground, Cond.selects RX7 yX7_ground yX7_ground, Cond.code yX7_ground cX7_ground 2 (some .int), Cond.methodLink RL 103 yX7_standsOn, Cond.instanceMethod yX7_standsOn, Cond.selects RX7 yX7_standsOn yX7_standsOn]
def wsL_law0_r21 : List Cond := [Cond.code yX7_standsOn cX7_standsOn 4 (some .boolean), Cond.methodLink RL 107 yL_told, Cond.static yL_told, Cond.code yL_told cL_told 1 (some .int), Cond.methodLink RL 111 yX7_isGuarded, Cond.instanceMethod yX7_isGuarded, Cond.selects RX7 yX7_isGuarded yX7_isGuarded, Cond.code yX7_isGuarded cX7_isGuarded 2 (some .boolean), Cond.methodLink RL 128 yX7_firings, Cond.instanceMethod yX7_firings, Cond.selects RX7 yX7_firings yX7_firings, Cond.code yX7_firings cX7_firings 1 (some .int), Cond.methodLink RL 169 yL_arePatterns, Cond.static yL_arePatterns, Cond.code yL_arePatterns cL_arePatterns 14 (some .boolean), Cond.methodLink RL 123 Lib.Math.max.name, Cond.methodLink RL 173 yL_areAlerts, Cond.static yL_areAlerts, Cond.code yL_areAlerts cL_areAlerts 12 (some .boolean), Cond.arrayClass .boolean, Cond.methodLink RL 177 yL_areBudgets, Cond.static yL_areBudgets, Cond.code yL_areBudgets cL_areBudgets 14 (some .boolean), Cond.methodLink RL 135 yX7_bytes]
def wsL_law0_r22 : List Cond := [Cond.instanceMethod yX7_bytes, Cond.selects RX7 yX7_bytes yX7_bytes, Cond.code yX7_bytes cX7_bytes 4 (some .long), Cond.methodLink RL 139 yX7_lines, Cond.instanceMethod yX7_lines, Cond.selects RX7 yX7_lines yX7_lines, Cond.code yX7_lines cX7_lines 1 (some .int), Cond.methodLink RL 142 yX7_droppedShare, Cond.instanceMethod yX7_droppedShare, Cond.selects RX7 yX7_droppedShare yX7_droppedShare, Cond.code yX7_droppedShare cX7_droppedShare 4 (some .float), Cond.classLink RX7 276 "java/lang/ArithmeticException", Cond.initialized "java/lang/ArithmeticException", Cond.methodLink RL 146 yX7_isSound, Cond.instanceMethod yX7_isSound, Cond.selects RX7 yX7_isSound yX7_isSound, Cond.code yX7_isSound cX7_isSound 1 (some .boolean), Cond.methodLink RX7 286 yX7_countsAreSound, Cond.instanceMethod yX7_countsAreSound, Cond.selects RX7 yX7_countsAreSound yX7_countsAreSound, Cond.code yX7_countsAreSound cX7_countsAreSound 3 (some .boolean), Cond.methodLink RX7 290 yX7_firingsAreSound, Cond.instanceMethod yX7_firingsAreSound, Cond.selects RX7 yX7_firingsAreSound yX7_firingsAreSound]
def wsL_law0_r23 : List Cond := [Cond.code yX7_firingsAreSound cX7_firingsAreSound 2 (some .boolean), Cond.methodLink RX7 401 yX7_someFiringHas, Cond.instanceMethod yX7_someFiringHas, Cond.selects RX7 yX7_someFiringHas yX7_someFiringHas, Cond.code yX7_someFiringHas cX7_someFiringHas 3 (some .boolean), Cond.methodLink RX7 293 yX7_patternsAreSound, Cond.instanceMethod yX7_patternsAreSound, Cond.selects RX7 yX7_patternsAreSound yX7_patternsAreSound, Cond.code yX7_patternsAreSound cX7_patternsAreSound 3 (some .boolean)]
def wsL_law0 : List Cond := (wsL_law0_r1 ++ (wsL_law0_r2 ++ (wsL_law0_r3 ++ (wsL_law0_r4 ++ (wsL_law0_r5 ++ (wsL_law0_r6 ++ (wsL_law0_r7 ++ (wsL_law0_r8 ++ (wsL_law0_r9 ++ (wsL_law0_r10 ++ (wsL_law0_r11 ++ (wsL_law0_r12 ++ (wsL_law0_r13 ++ (wsL_law0_r14 ++ (wsL_law0_r15 ++ (wsL_law0_r16 ++ (wsL_law0_r17 ++ (wsL_law0_r18 ++ (wsL_law0_r19 ++ (wsL_law0_r20 ++ (wsL_law0_r21 ++ (wsL_law0_r22 ++ wsL_law0_r23)))))))))))))))))))))) ++ wsX70 ++ wsJx4a65c0 ++ wsX60 ++ wsX30 ++ wsX40 ++ wsX00 ++ wsX10 ++ wsX20 ++ wsX50 ++ ([] : List Cond)
def wsL_law : List Cond := wsL_law0 ++ (vx_atM "java/lang/ArrayIndexOutOfBoundsException" ["java/lang/IndexOutOfBoundsException", "java/lang/RuntimeException", "java/lang/Exception"]).filter goodWord ++ (vx_atM "java/lang/ArithmeticException" ["java/lang/RuntimeException", "java/lang/Exception"]).filter goodWord ++ (vx_atS RX7 50 "java/lang/IllegalArgumentException" ["java/lang/RuntimeException", "java/lang/Exception"]).filter goodWord ++ (vx_atS RX7 61 "java/lang/IllegalStateException" ["java/lang/RuntimeException", "java/lang/Exception"]).filter goodWord ++ (vx_atS RX7 182 "java/util/NoSuchElementException" ["java/lang/RuntimeException", "java/lang/Exception"]).filter goodWord ++ (vx_atS RX7 255 "java/lang/UnsupportedOperationException" ["java/lang/RuntimeException", "java/lang/Exception"]).filter goodWord ++ (vx_atS RX7 310 "java/lang/IndexOutOfBoundsException" ["java/lang/RuntimeException", "java/lang/Exception"]).filter goodWord ++ (vx_atS RX7 280 "java/lang/ArithmeticException" ["java/lang/RuntimeException", "java/lang/Exception"]).filter goodWord
theorem inlX0 : ∀ w ∈ wsX00, w ∈ wsL_law := fun _ h => List.mem_append_left _ (List.mem_append_left _ (List.mem_append_left _ (List.mem_append_left _ (List.mem_append_left _ (List.mem_append_left _ (List.mem_append_left _ (List.mem_append_left _ (List.mem_append_left _ (List.mem_append_left _ (List.mem_append_left _ (List.mem_append_left _ (List.mem_append_right _ h))))))))))))
theorem inlX1 : ∀ w ∈ wsX10, w ∈ wsL_law := fun _ h => List.mem_append_left _ (List.mem_append_left _ (List.mem_append_left _ (List.mem_append_left _ (List.mem_append_left _ (List.mem_append_left _ (List.mem_append_left _ (List.mem_append_left _ (List.mem_append_left _ (List.mem_append_left _ (List.mem_append_left _ (List.mem_append_right _ h)))))))))))
theorem inlX2 : ∀ w ∈ wsX20, w ∈ wsL_law := fun _ h => List.mem_append_left _ (List.mem_append_left _ (List.mem_append_left _ (List.mem_append_left _ (List.mem_append_left _ (List.mem_append_left _ (List.mem_append_left _ (List.mem_append_left _ (List.mem_append_left _ (List.mem_append_left _ (List.mem_append_right _ h))))))))))
theorem inlX3 : ∀ w ∈ wsX30, w ∈ wsL_law := fun _ h => List.mem_append_left _ (List.mem_append_left _ (List.mem_append_left _ (List.mem_append_left _ (List.mem_append_left _ (List.mem_append_left _ (List.mem_append_left _ (List.mem_append_left _ (List.mem_append_left _ (List.mem_append_left _ (List.mem_append_left _ (List.mem_append_left _ (List.mem_append_left _ (List.mem_append_left _ (List.mem_append_right _ h))))))))))))))
theorem inlX4 : ∀ w ∈ wsX40, w ∈ wsL_law := fun _ h => List.mem_append_left _ (List.mem_append_left _ (List.mem_append_left _ (List.mem_append_left _ (List.mem_append_left _ (List.mem_append_left _ (List.mem_append_left _ (List.mem_append_left _ (List.mem_append_left _ (List.mem_append_left _ (List.mem_append_left _ (List.mem_append_left _ (List.mem_append_left _ (List.mem_append_right _ h)))))))))))))
theorem inlX5 : ∀ w ∈ wsX50, w ∈ wsL_law := fun _ h => List.mem_append_left _ (List.mem_append_left _ (List.mem_append_left _ (List.mem_append_left _ (List.mem_append_left _ (List.mem_append_left _ (List.mem_append_left _ (List.mem_append_left _ (List.mem_append_left _ (List.mem_append_right _ h)))))))))
theorem inlX6 : ∀ w ∈ wsX60, w ∈ wsL_law := fun _ h => List.mem_append_left _ (List.mem_append_left _ (List.mem_append_left _ (List.mem_append_left _ (List.mem_append_left _ (List.mem_append_left _ (List.mem_append_left _ (List.mem_append_left _ (List.mem_append_left _ (List.mem_append_left _ (List.mem_append_left _ (List.mem_append_left _ (List.mem_append_left _ (List.mem_append_left _ (List.mem_append_left _ (List.mem_append_right _ h)))))))))))))))
theorem inlX7 : ∀ w ∈ wsX70, w ∈ wsL_law := fun _ h => List.mem_append_left _ (List.mem_append_left _ (List.mem_append_left _ (List.mem_append_left _ (List.mem_append_left _ (List.mem_append_left _ (List.mem_append_left _ (List.mem_append_left _ (List.mem_append_left _ (List.mem_append_left _ (List.mem_append_left _ (List.mem_append_left _ (List.mem_append_left _ (List.mem_append_left _ (List.mem_append_left _ (List.mem_append_left _ (List.mem_append_left _ (List.mem_append_right _ h)))))))))))))))))
theorem inlJx4a65c : ∀ w ∈ wsJx4a65c0, w ∈ wsL_law := fun _ h => List.mem_append_left _ (List.mem_append_left _ (List.mem_append_left _ (List.mem_append_left _ (List.mem_append_left _ (List.mem_append_left _ (List.mem_append_left _ (List.mem_append_left _ (List.mem_append_left _ (List.mem_append_left _ (List.mem_append_left _ (List.mem_append_left _ (List.mem_append_left _ (List.mem_append_left _ (List.mem_append_left _ (List.mem_append_left _ (List.mem_append_right _ h))))))))))))))))
theorem dX0_init_0 : decode cX0_init 0 = .ok (.aload_n 0, 1) := by decide +kernel
theorem dX0_init_1 : decode cX0_init 1 = .ok (.invokespecial 3, 3) := by decide +kernel
theorem dX0_init_4 : decode cX0_init 4 = .ok (.aload_n 0, 1) := by decide +kernel
theorem dX0_init_5 : decode cX0_init 5 = .ok (.bipush 113, 2) := by decide +kernel
theorem dX0_init_7 : decode cX0_init 7 = .ok (.putfield 9, 3) := by decide +kernel
theorem dX0_init_10 : decode cX0_init 10 = .ok (.aload_n 0, 1) := by decide +kernel
theorem dX0_init_11 : decode cX0_init 11 = .ok (.iload_n 1, 1) := by decide +kernel
theorem dX0_init_12 : decode cX0_init 12 = .ok (.putfield 15, 3) := by decide +kernel
theorem dX0_init_15 : decode cX0_init 15 = .ok (.aload_n 0, 1) := by decide +kernel
theorem dX0_init_16 : decode cX0_init 16 = .ok (.aload_n 2, 1) := by decide +kernel
theorem dX0_init_17 : decode cX0_init 17 = .ok (.putfield 19, 3) := by decide +kernel
theorem dX0_init_20 : decode cX0_init 20 = .ok (.aload_n 0, 1) := by decide +kernel
theorem dX0_init_21 : decode cX0_init 21 = .ok (.iload_n 3, 1) := by decide +kernel
theorem dX0_init_22 : decode cX0_init 22 = .ok (.putfield 23, 3) := by decide +kernel
theorem dX0_init_25 : decode cX0_init 25 = .ok (.aload_n 0, 1) := by decide +kernel
theorem dX0_init_26 : decode cX0_init 26 = .ok (.iload 4, 2) := by decide +kernel
theorem dX0_init_28 : decode cX0_init 28 = .ok (.putfield 26, 3) := by decide +kernel
theorem dX0_init_31 : decode cX0_init 31 = .ok (.aload_n 0, 1) := by decide +kernel
theorem dX0_init_32 : decode cX0_init 32 = .ok (.iload 5, 2) := by decide +kernel
theorem dX0_init_34 : decode cX0_init 34 = .ok (.putfield 29, 3) := by decide +kernel
theorem dX0_init_37 : decode cX0_init 37 = .ok (.return_, 1) := by decide +kernel
set_option maxRecDepth 20000 in
theorem ggX0_counts_X3_cameWithin : GoodIn wsX0_counts wsX3_cameWithin := goodIn_r _ [6, 7, 23, 24, 25, 26, 27, 28, 29, 30] (by decide +kernel) (by decide +kernel)
set_option maxRecDepth 20000 in
theorem gX0_counts_X3_cameWithin_n35 : GoodIn wsX0_counts (wsX3_cameWithin) := ggX0_counts_X3_cameWithin
set_option maxRecDepth 20000 in
theorem ggX0_counts_X1_takes : GoodIn wsX0_counts wsX1_takes := goodIn_r _ [11, 12, 13, 14, 15, 16, 17, 18, 19, 20, 21, 22, 23, 24, 25, 26, 27, 28, 29, 30, 40, 41, 42, 43, 44, 45, 46] (by decide +kernel) (by decide +kernel)
set_option maxRecDepth 20000 in
theorem gX0_counts_X1_takes_n39 : GoodIn wsX0_counts (wsX1_takes) := ggX0_counts_X1_takes
theorem dX0_counts_0 : decode cX0_counts 0 = .ok (.aload_n 1, 1) := by decide +kernel
theorem dX0_counts_1 : decode cX0_counts 1 = .ok (.getfield 32, 3) := by decide +kernel
theorem dX0_counts_4 : decode cX0_counts 4 = .ok (.bipush 100, 2) := by decide +kernel
theorem dX0_counts_6 : decode cX0_counts 6 = .ok (.if_icmp .eq 30, 3) := by decide +kernel
theorem dX0_counts_9 : decode cX0_counts 9 = .ok (.aload_n 1, 1) := by decide +kernel
theorem dX0_counts_10 : decode cX0_counts 10 = .ok (.aload_n 0, 1) := by decide +kernel
theorem dX0_counts_11 : decode cX0_counts 11 = .ok (.getfield 26, 3) := by decide +kernel
theorem dX0_counts_14 : decode cX0_counts 14 = .ok (.iload_n 2, 1) := by decide +kernel
theorem dX0_counts_15 : decode cX0_counts 15 = .ok (.invokevirtual 35, 3) := by decide +kernel
theorem dX0_counts_18 : decode cX0_counts 18 = .ok (.ifCond .eq 18, 3) := by decide +kernel
theorem dX0_counts_21 : decode cX0_counts 21 = .ok (.aload_n 0, 1) := by decide +kernel
theorem dX0_counts_22 : decode cX0_counts 22 = .ok (.getfield 19, 3) := by decide +kernel
theorem dX0_counts_25 : decode cX0_counts 25 = .ok (.aload_n 1, 1) := by decide +kernel
theorem dX0_counts_26 : decode cX0_counts 26 = .ok (.invokevirtual 39, 3) := by decide +kernel
theorem dX0_counts_29 : decode cX0_counts 29 = .ok (.ifCond .eq 7, 3) := by decide +kernel
theorem dX0_counts_32 : decode cX0_counts 32 = .ok (.iconst 1, 1) := by decide +kernel
theorem dX0_counts_33 : decode cX0_counts 33 = .ok (.goto 4, 3) := by decide +kernel
theorem dX0_counts_36 : decode cX0_counts 36 = .ok (.iconst 0, 1) := by decide +kernel
theorem dX0_counts_37 : decode cX0_counts 37 = .ok (.ireturn, 1) := by decide +kernel
theorem dX0_shortenHold_0 : decode cX0_shortenHold 0 = .ok (.aload_n 0, 1) := by decide +kernel
theorem dX0_shortenHold_1 : decode cX0_shortenHold 1 = .ok (.getfield 9, 3) := by decide +kernel
theorem dX0_shortenHold_4 : decode cX0_shortenHold 4 = .ok (.bipush 104, 2) := by decide +kernel
theorem dX0_shortenHold_6 : decode cX0_shortenHold 6 = .ok (.if_icmp .eq 4, 3) := by decide +kernel
theorem dX0_shortenHold_9 : decode cX0_shortenHold 9 = .ok (.return_, 1) := by decide +kernel
theorem dX0_shortenHold_10 : decode cX0_shortenHold 10 = .ok (.aload_n 0, 1) := by decide +kernel
theorem dX0_shortenHold_11 : decode cX0_shortenHold 11 = .ok (.dup, 1) := by decide +kernel
theorem dX0_shortenHold_12 : decode cX0_shortenHold 12 = .ok (.getfield 45, 3) := by decide +kernel
theorem dX0_shortenHold_15 : decode cX0_shortenHold 15 = .ok (.iconst 1, 1) := by decide +kernel
theorem dX0_shortenHold_16 : decode cX0_shortenHold 16 = .ok (.isub, 1) := by decide +kernel
theorem dX0_shortenHold_17 : decode cX0_shortenHold 17 = .ok (.putfield 45, 3) := by decide +kernel
theorem dX0_shortenHold_20 : decode cX0_shortenHold 20 = .ok (.aload_n 0, 1) := by decide +kernel
theorem dX0_shortenHold_21 : decode cX0_shortenHold 21 = .ok (.getfield 45, 3) := by decide +kernel
theorem dX0_shortenHold_24 : decode cX0_shortenHold 24 = .ok (.ifCond .gt 14, 3) := by decide +kernel
theorem dX0_shortenHold_27 : decode cX0_shortenHold 27 = .ok (.aload_n 0, 1) := by decide +kernel
theorem dX0_shortenHold_28 : decode cX0_shortenHold 28 = .ok (.iconst 0, 1) := by decide +kernel
theorem dX0_shortenHold_29 : decode cX0_shortenHold 29 = .ok (.putfield 45, 3) := by decide +kernel
theorem dX0_shortenHold_32 : decode cX0_shortenHold 32 = .ok (.aload_n 0, 1) := by decide +kernel
theorem dX0_shortenHold_33 : decode cX0_shortenHold 33 = .ok (.bipush 113, 2) := by decide +kernel
theorem dX0_shortenHold_35 : decode cX0_shortenHold 35 = .ok (.putfield 9, 3) := by decide +kernel
theorem dX0_shortenHold_38 : decode cX0_shortenHold 38 = .ok (.return_, 1) := by decide +kernel
theorem dX1_init_0 : decode cX1_init 0 = .ok (.aload_n 0, 1) := by decide +kernel
theorem dX1_init_1 : decode cX1_init 1 = .ok (.invokespecial 3, 3) := by decide +kernel
theorem dX1_init_4 : decode cX1_init 4 = .ok (.aload_n 0, 1) := by decide +kernel
theorem dX1_init_5 : decode cX1_init 5 = .ok (.iload_n 1, 1) := by decide +kernel
theorem dX1_init_6 : decode cX1_init 6 = .ok (.putfield 9, 3) := by decide +kernel
theorem dX1_init_9 : decode cX1_init 9 = .ok (.aload_n 0, 1) := by decide +kernel
theorem dX1_init_10 : decode cX1_init 10 = .ok (.iload_n 2, 1) := by decide +kernel
theorem dX1_init_11 : decode cX1_init 11 = .ok (.putfield 15, 3) := by decide +kernel
theorem dX1_init_14 : decode cX1_init 14 = .ok (.aload_n 0, 1) := by decide +kernel
theorem dX1_init_15 : decode cX1_init 15 = .ok (.iload_n 3, 1) := by decide +kernel
theorem dX1_init_16 : decode cX1_init 16 = .ok (.putfield 18, 3) := by decide +kernel
theorem dX1_init_19 : decode cX1_init 19 = .ok (.aload_n 0, 1) := by decide +kernel
theorem dX1_init_20 : decode cX1_init 20 = .ok (.iload 4, 2) := by decide +kernel
theorem dX1_init_22 : decode cX1_init 22 = .ok (.putfield 21, 3) := by decide +kernel
theorem dX1_init_25 : decode cX1_init 25 = .ok (.return_, 1) := by decide +kernel
set_option maxRecDepth 20000 in
theorem ggX1_takes_X6_at : GoodIn wsX1_takes wsX6_at := goodIn_r _ [8, 9, 10, 11, 24, 25, 26] (by decide +kernel) (by decide +kernel)
set_option maxRecDepth 20000 in
theorem gX1_takes_X6_at_n34 : GoodIn wsX1_takes (wsX6_at) := ggX1_takes_X6_at
theorem dX1_takes_0 : decode cX1_takes 0 = .ok (.aload_n 1, 1) := by decide +kernel
theorem dX1_takes_1 : decode cX1_takes 1 = .ok (.getfield 24, 3) := by decide +kernel
theorem dX1_takes_4 : decode cX1_takes 4 = .ok (.aload_n 0, 1) := by decide +kernel
theorem dX1_takes_5 : decode cX1_takes 5 = .ok (.getfield 9, 3) := by decide +kernel
theorem dX1_takes_8 : decode cX1_takes 8 = .ok (.if_icmp .ne 44, 3) := by decide +kernel
theorem dX1_takes_11 : decode cX1_takes 11 = .ok (.aload_n 1, 1) := by decide +kernel
theorem dX1_takes_12 : decode cX1_takes 12 = .ok (.getfield 27, 3) := by decide +kernel
theorem dX1_takes_15 : decode cX1_takes 15 = .ok (.aload_n 0, 1) := by decide +kernel
theorem dX1_takes_16 : decode cX1_takes 16 = .ok (.getfield 15, 3) := by decide +kernel
theorem dX1_takes_19 : decode cX1_takes 19 = .ok (.if_icmp .lt 33, 3) := by decide +kernel
theorem dX1_takes_22 : decode cX1_takes 22 = .ok (.aload_n 0, 1) := by decide +kernel
theorem dX1_takes_23 : decode cX1_takes 23 = .ok (.getfield 18, 3) := by decide +kernel
theorem dX1_takes_26 : decode cX1_takes 26 = .ok (.iconst (-1), 1) := by decide +kernel
theorem dX1_takes_27 : decode cX1_takes 27 = .ok (.if_icmp .eq 21, 3) := by decide +kernel
theorem dX1_takes_30 : decode cX1_takes 30 = .ok (.aload_n 1, 1) := by decide +kernel
theorem dX1_takes_31 : decode cX1_takes 31 = .ok (.getfield 30, 3) := by decide +kernel
theorem dX1_takes_34 : decode cX1_takes 34 = .ok (.aload_n 0, 1) := by decide +kernel
theorem dX1_takes_35 : decode cX1_takes 35 = .ok (.getfield 18, 3) := by decide +kernel
theorem dX1_takes_38 : decode cX1_takes 38 = .ok (.invokevirtual 34, 3) := by decide +kernel
theorem dX1_takes_41 : decode cX1_takes 41 = .ok (.aload_n 0, 1) := by decide +kernel
theorem dX1_takes_42 : decode cX1_takes 42 = .ok (.getfield 21, 3) := by decide +kernel
theorem dX1_takes_45 : decode cX1_takes 45 = .ok (.if_icmp .ne 7, 3) := by decide +kernel
theorem dX1_takes_48 : decode cX1_takes 48 = .ok (.iconst 1, 1) := by decide +kernel
theorem dX1_takes_49 : decode cX1_takes 49 = .ok (.goto 4, 3) := by decide +kernel
theorem dX1_takes_52 : decode cX1_takes 52 = .ok (.iconst 0, 1) := by decide +kernel
theorem dX1_takes_53 : decode cX1_takes 53 = .ok (.ireturn, 1) := by decide +kernel
theorem dX2_init_0 : decode cX2_init 0 = .ok (.aload_n 0, 1) := by decide +kernel
theorem dX2_init_1 : decode cX2_init 1 = .ok (.invokespecial 3, 3) := by decide +kernel
theorem dX2_init_4 : decode cX2_init 4 = .ok (.aload_n 0, 1) := by decide +kernel
theorem dX2_init_5 : decode cX2_init 5 = .ok (.iconst 4, 1) := by decide +kernel
theorem dX2_init_6 : decode cX2_init 6 = .ok (.newarray .long, 2) := by decide +kernel
theorem dX2_init_8 : decode cX2_init 8 = .ok (.putfield 9, 3) := by decide +kernel
theorem dX2_init_11 : decode cX2_init 11 = .ok (.aload_n 0, 1) := by decide +kernel
theorem dX2_init_12 : decode cX2_init 12 = .ok (.aload_n 1, 1) := by decide +kernel
theorem dX2_init_13 : decode cX2_init 13 = .ok (.putfield 15, 3) := by decide +kernel
theorem dX2_init_16 : decode cX2_init 16 = .ok (.aload_n 0, 1) := by decide +kernel
theorem dX2_init_17 : decode cX2_init 17 = .ok (.iload_n 2, 1) := by decide +kernel
theorem dX2_init_18 : decode cX2_init 18 = .ok (.putfield 19, 3) := by decide +kernel
theorem dX2_init_21 : decode cX2_init 21 = .ok (.return_, 1) := by decide +kernel
theorem dX2_hasLine_0 : decode cX2_hasLine 0 = .ok (.iload_n 1, 1) := by decide +kernel
theorem dX2_hasLine_1 : decode cX2_hasLine 1 = .ok (.ifCond .lt 15, 3) := by decide +kernel
theorem dX2_hasLine_4 : decode cX2_hasLine 4 = .ok (.iload_n 1, 1) := by decide +kernel
theorem dX2_hasLine_5 : decode cX2_hasLine 5 = .ok (.bipush 64, 2) := by decide +kernel
theorem dX2_hasLine_7 : decode cX2_hasLine 7 = .ok (.idiv, 1) := by decide +kernel
theorem dX2_hasLine_8 : decode cX2_hasLine 8 = .ok (.aload_n 0, 1) := by decide +kernel
theorem dX2_hasLine_9 : decode cX2_hasLine 9 = .ok (.getfield 9, 3) := by decide +kernel
theorem dX2_hasLine_12 : decode cX2_hasLine 12 = .ok (.arraylength, 1) := by decide +kernel
theorem dX2_hasLine_13 : decode cX2_hasLine 13 = .ok (.if_icmp .lt 5, 3) := by decide +kernel
theorem dX2_hasLine_16 : decode cX2_hasLine 16 = .ok (.iconst 0, 1) := by decide +kernel
theorem dX2_hasLine_17 : decode cX2_hasLine 17 = .ok (.ireturn, 1) := by decide +kernel
theorem dX2_hasLine_18 : decode cX2_hasLine 18 = .ok (.aload_n 0, 1) := by decide +kernel
theorem dX2_hasLine_19 : decode cX2_hasLine 19 = .ok (.getfield 9, 3) := by decide +kernel
theorem dX2_hasLine_22 : decode cX2_hasLine 22 = .ok (.iload_n 1, 1) := by decide +kernel
theorem dX2_hasLine_23 : decode cX2_hasLine 23 = .ok (.bipush 64, 2) := by decide +kernel
theorem dX2_hasLine_25 : decode cX2_hasLine 25 = .ok (.idiv, 1) := by decide +kernel
theorem dX2_hasLine_26 : decode cX2_hasLine 26 = .ok (.laload, 1) := by decide +kernel
theorem dX2_hasLine_27 : decode cX2_hasLine 27 = .ok (.iload_n 1, 1) := by decide +kernel
theorem dX2_hasLine_28 : decode cX2_hasLine 28 = .ok (.bipush 64, 2) := by decide +kernel
theorem dX2_hasLine_30 : decode cX2_hasLine 30 = .ok (.irem, 1) := by decide +kernel
theorem dX2_hasLine_31 : decode cX2_hasLine 31 = .ok (.lshr, 1) := by decide +kernel
theorem dX2_hasLine_32 : decode cX2_hasLine 32 = .ok (.lconst 1, 1) := by decide +kernel
theorem dX2_hasLine_33 : decode cX2_hasLine 33 = .ok (.land, 1) := by decide +kernel
theorem dX2_hasLine_34 : decode cX2_hasLine 34 = .ok (.lconst 1, 1) := by decide +kernel
theorem dX2_hasLine_35 : decode cX2_hasLine 35 = .ok (.lcmp, 1) := by decide +kernel
theorem dX2_hasLine_36 : decode cX2_hasLine 36 = .ok (.ifCond .ne 7, 3) := by decide +kernel
theorem dX2_hasLine_39 : decode cX2_hasLine 39 = .ok (.iconst 1, 1) := by decide +kernel
theorem dX2_hasLine_40 : decode cX2_hasLine 40 = .ok (.goto 4, 3) := by decide +kernel
theorem dX2_hasLine_43 : decode cX2_hasLine 43 = .ok (.iconst 0, 1) := by decide +kernel
theorem dX2_hasLine_44 : decode cX2_hasLine 44 = .ok (.ireturn, 1) := by decide +kernel
set_option maxRecDepth 20000 in
theorem ggX2_putLine_X2_hasLine : GoodIn wsX2_putLine wsX2_hasLine := goodIn_ca (goodIn_r _ [7, 1, 8, 9, 10, 11, 12] (by decide +kernel) (by decide +kernel)) (goodIn_sub (fun _ h => List.mem_cons_of_mem _ (List.mem_append_right _ h)) (by decide +kernel))
set_option maxRecDepth 20000 in
theorem gX2_putLine_X2_hasLine : GoodIn wsX2_putLine (wsV RX2 23 RX2 yX2_hasLine wsX2_hasLine) := goodIn_app (goodIn_of _ (by decide +kernel)) ggX2_putLine_X2_hasLine
theorem dX2_putLine_0 : decode cX2_putLine 0 = .ok (.iload_n 1, 1) := by decide +kernel
theorem dX2_putLine_1 : decode cX2_putLine 1 = .ok (.ifCond .lt 23, 3) := by decide +kernel
theorem dX2_putLine_4 : decode cX2_putLine 4 = .ok (.iload_n 1, 1) := by decide +kernel
theorem dX2_putLine_5 : decode cX2_putLine 5 = .ok (.bipush 64, 2) := by decide +kernel
theorem dX2_putLine_7 : decode cX2_putLine 7 = .ok (.idiv, 1) := by decide +kernel
theorem dX2_putLine_8 : decode cX2_putLine 8 = .ok (.aload_n 0, 1) := by decide +kernel
theorem dX2_putLine_9 : decode cX2_putLine 9 = .ok (.getfield 9, 3) := by decide +kernel
theorem dX2_putLine_12 : decode cX2_putLine 12 = .ok (.arraylength, 1) := by decide +kernel
theorem dX2_putLine_13 : decode cX2_putLine 13 = .ok (.if_icmp .ge 11, 3) := by decide +kernel
theorem dX2_putLine_16 : decode cX2_putLine 16 = .ok (.aload_n 0, 1) := by decide +kernel
theorem dX2_putLine_17 : decode cX2_putLine 17 = .ok (.iload_n 1, 1) := by decide +kernel
theorem dX2_putLine_18 : decode cX2_putLine 18 = .ok (.invokevirtual 23, 3) := by decide +kernel
theorem dX2_putLine_21 : decode cX2_putLine 21 = .ok (.ifCond .eq 4, 3) := by decide +kernel
theorem dX2_putLine_24 : decode cX2_putLine 24 = .ok (.return_, 1) := by decide +kernel
theorem dX2_putLine_25 : decode cX2_putLine 25 = .ok (.aload_n 0, 1) := by decide +kernel
theorem dX2_putLine_26 : decode cX2_putLine 26 = .ok (.getfield 9, 3) := by decide +kernel
theorem dX2_putLine_29 : decode cX2_putLine 29 = .ok (.iload_n 1, 1) := by decide +kernel
theorem dX2_putLine_30 : decode cX2_putLine 30 = .ok (.bipush 64, 2) := by decide +kernel
theorem dX2_putLine_32 : decode cX2_putLine 32 = .ok (.idiv, 1) := by decide +kernel
theorem dX2_putLine_33 : decode cX2_putLine 33 = .ok (.dup2, 1) := by decide +kernel
theorem dX2_putLine_34 : decode cX2_putLine 34 = .ok (.laload, 1) := by decide +kernel
theorem dX2_putLine_35 : decode cX2_putLine 35 = .ok (.lconst 1, 1) := by decide +kernel
theorem dX2_putLine_36 : decode cX2_putLine 36 = .ok (.iload_n 1, 1) := by decide +kernel
theorem dX2_putLine_37 : decode cX2_putLine 37 = .ok (.bipush 64, 2) := by decide +kernel
theorem dX2_putLine_39 : decode cX2_putLine 39 = .ok (.irem, 1) := by decide +kernel
theorem dX2_putLine_40 : decode cX2_putLine 40 = .ok (.lshl, 1) := by decide +kernel
theorem dX2_putLine_41 : decode cX2_putLine 41 = .ok (.lor, 1) := by decide +kernel
theorem dX2_putLine_42 : decode cX2_putLine 42 = .ok (.lastore, 1) := by decide +kernel
theorem dX2_putLine_43 : decode cX2_putLine 43 = .ok (.aload_n 0, 1) := by decide +kernel
theorem dX2_putLine_44 : decode cX2_putLine 44 = .ok (.dup, 1) := by decide +kernel
theorem dX2_putLine_45 : decode cX2_putLine 45 = .ok (.getfield 27, 3) := by decide +kernel
theorem dX2_putLine_48 : decode cX2_putLine 48 = .ok (.iconst 1, 1) := by decide +kernel
theorem dX2_putLine_49 : decode cX2_putLine 49 = .ok (.iadd, 1) := by decide +kernel
theorem dX2_putLine_50 : decode cX2_putLine 50 = .ok (.putfield 27, 3) := by decide +kernel
theorem dX2_putLine_53 : decode cX2_putLine 53 = .ok (.return_, 1) := by decide +kernel
theorem dX2_clearLines_0 : decode cX2_clearLines 0 = .ok (.iconst 0, 1) := by decide +kernel
theorem dX2_clearLines_1 : decode cX2_clearLines 1 = .ok (.istore_n 1, 1) := by decide +kernel
theorem dX2_clearLines_2 : decode cX2_clearLines 2 = .ok (.iload_n 1, 1) := by decide +kernel
theorem dX2_clearLines_3 : decode cX2_clearLines 3 = .ok (.aload_n 0, 1) := by decide +kernel
theorem dX2_clearLines_4 : decode cX2_clearLines 4 = .ok (.getfield 9, 3) := by decide +kernel
theorem dX2_clearLines_7 : decode cX2_clearLines 7 = .ok (.arraylength, 1) := by decide +kernel
theorem dX2_clearLines_8 : decode cX2_clearLines 8 = .ok (.if_icmp .ge 16, 3) := by decide +kernel
theorem dX2_clearLines_11 : decode cX2_clearLines 11 = .ok (.aload_n 0, 1) := by decide +kernel
theorem dX2_clearLines_12 : decode cX2_clearLines 12 = .ok (.getfield 9, 3) := by decide +kernel
theorem dX2_clearLines_15 : decode cX2_clearLines 15 = .ok (.iload_n 1, 1) := by decide +kernel
theorem dX2_clearLines_16 : decode cX2_clearLines 16 = .ok (.lconst 0, 1) := by decide +kernel
theorem dX2_clearLines_17 : decode cX2_clearLines 17 = .ok (.lastore, 1) := by decide +kernel
theorem dX2_clearLines_18 : decode cX2_clearLines 18 = .ok (.iinc 1 1, 3) := by decide +kernel
theorem dX2_clearLines_21 : decode cX2_clearLines 21 = .ok (.goto (-19), 3) := by decide +kernel
theorem dX2_clearLines_24 : decode cX2_clearLines 24 = .ok (.aload_n 0, 1) := by decide +kernel
theorem dX2_clearLines_25 : decode cX2_clearLines 25 = .ok (.iconst 0, 1) := by decide +kernel
theorem dX2_clearLines_26 : decode cX2_clearLines 26 = .ok (.putfield 27, 3) := by decide +kernel
theorem dX2_clearLines_29 : decode cX2_clearLines 29 = .ok (.return_, 1) := by decide +kernel
theorem dX3_init_0 : decode cX3_init 0 = .ok (.aload_n 0, 1) := by decide +kernel
theorem dX3_init_1 : decode cX3_init 1 = .ok (.invokespecial 3, 3) := by decide +kernel
theorem dX3_init_4 : decode cX3_init 4 = .ok (.aload_n 0, 1) := by decide +kernel
theorem dX3_init_5 : decode cX3_init 5 = .ok (.bipush 107, 2) := by decide +kernel
theorem dX3_init_7 : decode cX3_init 7 = .ok (.putfield 9, 3) := by decide +kernel
theorem dX3_init_10 : decode cX3_init 10 = .ok (.aload_n 0, 1) := by decide +kernel
theorem dX3_init_11 : decode cX3_init 11 = .ok (.iload_n 1, 1) := by decide +kernel
theorem dX3_init_12 : decode cX3_init 12 = .ok (.putfield 15, 3) := by decide +kernel
theorem dX3_init_15 : decode cX3_init 15 = .ok (.aload_n 0, 1) := by decide +kernel
theorem dX3_init_16 : decode cX3_init 16 = .ok (.iload_n 2, 1) := by decide +kernel
theorem dX3_init_17 : decode cX3_init 17 = .ok (.putfield 19, 3) := by decide +kernel
theorem dX3_init_20 : decode cX3_init 20 = .ok (.aload_n 0, 1) := by decide +kernel
theorem dX3_init_21 : decode cX3_init 21 = .ok (.aload_n 3, 1) := by decide +kernel
theorem dX3_init_22 : decode cX3_init 22 = .ok (.putfield 22, 3) := by decide +kernel
theorem dX3_init_25 : decode cX3_init 25 = .ok (.aload_n 0, 1) := by decide +kernel
theorem dX3_init_26 : decode cX3_init 26 = .ok (.iload 4, 2) := by decide +kernel
theorem dX3_init_28 : decode cX3_init 28 = .ok (.putfield 26, 3) := by decide +kernel
theorem dX3_init_31 : decode cX3_init 31 = .ok (.aload_n 0, 1) := by decide +kernel
theorem dX3_init_32 : decode cX3_init 32 = .ok (.iload 5, 2) := by decide +kernel
theorem dX3_init_34 : decode cX3_init 34 = .ok (.putfield 29, 3) := by decide +kernel
theorem dX3_init_37 : decode cX3_init 37 = .ok (.aload_n 0, 1) := by decide +kernel
theorem dX3_init_38 : decode cX3_init 38 = .ok (.aload 6, 2) := by decide +kernel
theorem dX3_init_40 : decode cX3_init 40 = .ok (.putfield 32, 3) := by decide +kernel
theorem dX3_init_43 : decode cX3_init 43 = .ok (.return_, 1) := by decide +kernel
theorem dX3_cameWithin_0 : decode cX3_cameWithin 0 = .ok (.iload_n 2, 1) := by decide +kernel
theorem dX3_cameWithin_1 : decode cX3_cameWithin 1 = .ok (.aload_n 0, 1) := by decide +kernel
theorem dX3_cameWithin_2 : decode cX3_cameWithin 2 = .ok (.getfield 29, 3) := by decide +kernel
theorem dX3_cameWithin_5 : decode cX3_cameWithin 5 = .ok (.isub, 1) := by decide +kernel
theorem dX3_cameWithin_6 : decode cX3_cameWithin 6 = .ok (.iload_n 1, 1) := by decide +kernel
theorem dX3_cameWithin_7 : decode cX3_cameWithin 7 = .ok (.if_icmp .ge 7, 3) := by decide +kernel
theorem dX3_cameWithin_10 : decode cX3_cameWithin 10 = .ok (.iconst 1, 1) := by decide +kernel
theorem dX3_cameWithin_11 : decode cX3_cameWithin 11 = .ok (.goto 4, 3) := by decide +kernel
theorem dX3_cameWithin_14 : decode cX3_cameWithin 14 = .ok (.iconst 0, 1) := by decide +kernel
theorem dX3_cameWithin_15 : decode cX3_cameWithin 15 = .ok (.ireturn, 1) := by decide +kernel
theorem dX4_init_0 : decode cX4_init 0 = .ok (.aload_n 0, 1) := by decide +kernel
theorem dX4_init_1 : decode cX4_init 1 = .ok (.invokespecial 3, 3) := by decide +kernel
theorem dX4_init_4 : decode cX4_init 4 = .ok (.aload_n 0, 1) := by decide +kernel
theorem dX4_init_5 : decode cX4_init 5 = .ok (.iload_n 1, 1) := by decide +kernel
theorem dX4_init_6 : decode cX4_init 6 = .ok (.putfield 9, 3) := by decide +kernel
theorem dX4_init_9 : decode cX4_init 9 = .ok (.aload_n 0, 1) := by decide +kernel
theorem dX4_init_10 : decode cX4_init 10 = .ok (.iload_n 2, 1) := by decide +kernel
theorem dX4_init_11 : decode cX4_init 11 = .ok (.putfield 15, 3) := by decide +kernel
theorem dX4_init_14 : decode cX4_init 14 = .ok (.aload_n 0, 1) := by decide +kernel
theorem dX4_init_15 : decode cX4_init 15 = .ok (.aload_n 3, 1) := by decide +kernel
theorem dX4_init_16 : decode cX4_init 16 = .ok (.putfield 18, 3) := by decide +kernel
theorem dX4_init_19 : decode cX4_init 19 = .ok (.return_, 1) := by decide +kernel
set_option maxRecDepth 20000 in
theorem ggX4_suits_X6_at : GoodIn wsX4_suits wsX6_at := goodIn_r _ [6, 7, 8, 9, 14, 15, 16] (by decide +kernel) (by decide +kernel)
set_option maxRecDepth 20000 in
theorem gX4_suits_X6_at_n22 : GoodIn wsX4_suits (wsX6_at) := ggX4_suits_X6_at
theorem dX4_suits_0 : decode cX4_suits 0 = .ok (.iload_n 1, 1) := by decide +kernel
theorem dX4_suits_1 : decode cX4_suits 1 = .ok (.aload_n 0, 1) := by decide +kernel
theorem dX4_suits_2 : decode cX4_suits 2 = .ok (.getfield 15, 3) := by decide +kernel
theorem dX4_suits_5 : decode cX4_suits 5 = .ok (.if_icmp .eq 5, 3) := by decide +kernel
theorem dX4_suits_8 : decode cX4_suits 8 = .ok (.iconst 0, 1) := by decide +kernel
theorem dX4_suits_9 : decode cX4_suits 9 = .ok (.ireturn, 1) := by decide +kernel
theorem dX4_suits_10 : decode cX4_suits 10 = .ok (.iconst 0, 1) := by decide +kernel
theorem dX4_suits_11 : decode cX4_suits 11 = .ok (.istore_n 3, 1) := by decide +kernel
theorem dX4_suits_12 : decode cX4_suits 12 = .ok (.iload_n 3, 1) := by decide +kernel
theorem dX4_suits_13 : decode cX4_suits 13 = .ok (.iconst 3, 1) := by decide +kernel
theorem dX4_suits_14 : decode cX4_suits 14 = .ok (.if_icmp .ge 39, 3) := by decide +kernel
theorem dX4_suits_17 : decode cX4_suits 17 = .ok (.aload_n 0, 1) := by decide +kernel
theorem dX4_suits_18 : decode cX4_suits 18 = .ok (.getfield 18, 3) := by decide +kernel
theorem dX4_suits_21 : decode cX4_suits 21 = .ok (.iload_n 3, 1) := by decide +kernel
theorem dX4_suits_22 : decode cX4_suits 22 = .ok (.invokevirtual 22, 3) := by decide +kernel
theorem dX4_suits_25 : decode cX4_suits 25 = .ok (.iconst (-1), 1) := by decide +kernel
theorem dX4_suits_26 : decode cX4_suits 26 = .ok (.if_icmp .eq 21, 3) := by decide +kernel
theorem dX4_suits_29 : decode cX4_suits 29 = .ok (.aload_n 0, 1) := by decide +kernel
theorem dX4_suits_30 : decode cX4_suits 30 = .ok (.getfield 18, 3) := by decide +kernel
theorem dX4_suits_33 : decode cX4_suits 33 = .ok (.iload_n 3, 1) := by decide +kernel
theorem dX4_suits_34 : decode cX4_suits 34 = .ok (.invokevirtual 22, 3) := by decide +kernel
theorem dX4_suits_37 : decode cX4_suits 37 = .ok (.aload_n 2, 1) := by decide +kernel
theorem dX4_suits_38 : decode cX4_suits 38 = .ok (.iload_n 3, 1) := by decide +kernel
theorem dX4_suits_39 : decode cX4_suits 39 = .ok (.invokevirtual 22, 3) := by decide +kernel
theorem dX4_suits_42 : decode cX4_suits 42 = .ok (.if_icmp .eq 5, 3) := by decide +kernel
theorem dX4_suits_45 : decode cX4_suits 45 = .ok (.iconst 0, 1) := by decide +kernel
theorem dX4_suits_46 : decode cX4_suits 46 = .ok (.ireturn, 1) := by decide +kernel
theorem dX4_suits_47 : decode cX4_suits 47 = .ok (.iinc 3 1, 3) := by decide +kernel
theorem dX4_suits_50 : decode cX4_suits 50 = .ok (.goto (-38), 3) := by decide +kernel
theorem dX4_suits_53 : decode cX4_suits 53 = .ok (.iconst 1, 1) := by decide +kernel
theorem dX4_suits_54 : decode cX4_suits 54 = .ok (.ireturn, 1) := by decide +kernel
theorem dX5_init_0 : decode cX5_init 0 = .ok (.aload_n 0, 1) := by decide +kernel
theorem dX5_init_1 : decode cX5_init 1 = .ok (.invokespecial 1, 3) := by decide +kernel
theorem dX5_init_4 : decode cX5_init 4 = .ok (.aload_n 0, 1) := by decide +kernel
theorem dX5_init_5 : decode cX5_init 5 = .ok (.aload_n 1, 1) := by decide +kernel
theorem dX5_init_6 : decode cX5_init 6 = .ok (.putfield 7, 3) := by decide +kernel
theorem dX5_init_9 : decode cX5_init 9 = .ok (.aload_n 0, 1) := by decide +kernel
theorem dX5_init_10 : decode cX5_init 10 = .ok (.iload_n 2, 1) := by decide +kernel
theorem dX5_init_11 : decode cX5_init 11 = .ok (.putfield 13, 3) := by decide +kernel
theorem dX5_init_14 : decode cX5_init 14 = .ok (.return_, 1) := by decide +kernel
theorem dX6_init_0 : decode cX6_init 0 = .ok (.aload_n 0, 1) := by decide +kernel
theorem dX6_init_1 : decode cX6_init 1 = .ok (.invokespecial 3, 3) := by decide +kernel
theorem dX6_init_4 : decode cX6_init 4 = .ok (.aload_n 0, 1) := by decide +kernel
theorem dX6_init_5 : decode cX6_init 5 = .ok (.iload_n 1, 1) := by decide +kernel
theorem dX6_init_6 : decode cX6_init 6 = .ok (.putfield 9, 3) := by decide +kernel
theorem dX6_init_9 : decode cX6_init 9 = .ok (.aload_n 0, 1) := by decide +kernel
theorem dX6_init_10 : decode cX6_init 10 = .ok (.iload_n 2, 1) := by decide +kernel
theorem dX6_init_11 : decode cX6_init 11 = .ok (.putfield 15, 3) := by decide +kernel
theorem dX6_init_14 : decode cX6_init 14 = .ok (.aload_n 0, 1) := by decide +kernel
theorem dX6_init_15 : decode cX6_init 15 = .ok (.iload_n 3, 1) := by decide +kernel
theorem dX6_init_16 : decode cX6_init 16 = .ok (.putfield 18, 3) := by decide +kernel
theorem dX6_init_19 : decode cX6_init 19 = .ok (.return_, 1) := by decide +kernel
theorem dX6_at_0 : decode cX6_at 0 = .ok (.iload_n 1, 1) := by decide +kernel
theorem dX6_at_1 : decode cX6_at 1 = .ok (.ifCond .ne 8, 3) := by decide +kernel
theorem dX6_at_4 : decode cX6_at 4 = .ok (.aload_n 0, 1) := by decide +kernel
theorem dX6_at_5 : decode cX6_at 5 = .ok (.getfield 9, 3) := by decide +kernel
theorem dX6_at_8 : decode cX6_at 8 = .ok (.ireturn, 1) := by decide +kernel
theorem dX6_at_9 : decode cX6_at 9 = .ok (.iload_n 1, 1) := by decide +kernel
theorem dX6_at_10 : decode cX6_at 10 = .ok (.iconst 1, 1) := by decide +kernel
theorem dX6_at_11 : decode cX6_at 11 = .ok (.if_icmp .ne 10, 3) := by decide +kernel
theorem dX6_at_14 : decode cX6_at 14 = .ok (.aload_n 0, 1) := by decide +kernel
theorem dX6_at_15 : decode cX6_at 15 = .ok (.getfield 15, 3) := by decide +kernel
theorem dX6_at_18 : decode cX6_at 18 = .ok (.goto 7, 3) := by decide +kernel
theorem dX6_at_21 : decode cX6_at 21 = .ok (.aload_n 0, 1) := by decide +kernel
theorem dX6_at_22 : decode cX6_at 22 = .ok (.getfield 18, 3) := by decide +kernel
theorem dX6_at_25 : decode cX6_at 25 = .ok (.ireturn, 1) := by decide +kernel
theorem dX6_put_0 : decode cX6_put 0 = .ok (.iload_n 1, 1) := by decide +kernel
theorem dX6_put_1 : decode cX6_put 1 = .ok (.ifCond .ne 11, 3) := by decide +kernel
theorem dX6_put_4 : decode cX6_put 4 = .ok (.aload_n 0, 1) := by decide +kernel
theorem dX6_put_5 : decode cX6_put 5 = .ok (.iload_n 2, 1) := by decide +kernel
theorem dX6_put_6 : decode cX6_put 6 = .ok (.putfield 9, 3) := by decide +kernel
theorem dX6_put_9 : decode cX6_put 9 = .ok (.goto 21, 3) := by decide +kernel
theorem dX6_put_12 : decode cX6_put 12 = .ok (.iload_n 1, 1) := by decide +kernel
theorem dX6_put_13 : decode cX6_put 13 = .ok (.iconst 1, 1) := by decide +kernel
theorem dX6_put_14 : decode cX6_put 14 = .ok (.if_icmp .ne 11, 3) := by decide +kernel
theorem dX6_put_17 : decode cX6_put 17 = .ok (.aload_n 0, 1) := by decide +kernel
theorem dX6_put_18 : decode cX6_put 18 = .ok (.iload_n 2, 1) := by decide +kernel
theorem dX6_put_19 : decode cX6_put 19 = .ok (.putfield 15, 3) := by decide +kernel
theorem dX6_put_22 : decode cX6_put 22 = .ok (.goto 8, 3) := by decide +kernel
theorem dX6_put_25 : decode cX6_put 25 = .ok (.aload_n 0, 1) := by decide +kernel
theorem dX6_put_26 : decode cX6_put 26 = .ok (.iload_n 2, 1) := by decide +kernel
theorem dX6_put_27 : decode cX6_put 27 = .ok (.putfield 18, 3) := by decide +kernel
theorem dX6_put_30 : decode cX6_put 30 = .ok (.return_, 1) := by decide +kernel
set_option maxRecDepth 20000 in
theorem ggX6_differences_X6_at : GoodIn wsX6_differences wsX6_at := goodIn_r _ [5, 6, 7, 8, 9, 10, 11] (by decide +kernel) (by decide +kernel)
set_option maxRecDepth 20000 in
theorem gX6_differences_X6_at : GoodIn wsX6_differences (wsV RX6 21 RX6 yX6_at wsX6_at) := goodIn_app (goodIn_of _ (by decide +kernel)) ggX6_differences_X6_at
theorem dX6_differences_0 : decode cX6_differences 0 = .ok (.iconst 0, 1) := by decide +kernel
theorem dX6_differences_1 : decode cX6_differences 1 = .ok (.istore_n 2, 1) := by decide +kernel
theorem dX6_differences_2 : decode cX6_differences 2 = .ok (.iconst 0, 1) := by decide +kernel
theorem dX6_differences_3 : decode cX6_differences 3 = .ok (.istore_n 3, 1) := by decide +kernel
theorem dX6_differences_4 : decode cX6_differences 4 = .ok (.iload_n 3, 1) := by decide +kernel
theorem dX6_differences_5 : decode cX6_differences 5 = .ok (.iconst 3, 1) := by decide +kernel
theorem dX6_differences_6 : decode cX6_differences 6 = .ok (.if_icmp .ge 25, 3) := by decide +kernel
theorem dX6_differences_9 : decode cX6_differences 9 = .ok (.aload_n 0, 1) := by decide +kernel
theorem dX6_differences_10 : decode cX6_differences 10 = .ok (.iload_n 3, 1) := by decide +kernel
theorem dX6_differences_11 : decode cX6_differences 11 = .ok (.invokevirtual 21, 3) := by decide +kernel
theorem dX6_differences_14 : decode cX6_differences 14 = .ok (.aload_n 1, 1) := by decide +kernel
theorem dX6_differences_15 : decode cX6_differences 15 = .ok (.iload_n 3, 1) := by decide +kernel
theorem dX6_differences_16 : decode cX6_differences 16 = .ok (.invokevirtual 21, 3) := by decide +kernel
theorem dX6_differences_19 : decode cX6_differences 19 = .ok (.if_icmp .eq 6, 3) := by decide +kernel
theorem dX6_differences_22 : decode cX6_differences 22 = .ok (.iinc 2 1, 3) := by decide +kernel
theorem dX6_differences_25 : decode cX6_differences 25 = .ok (.iinc 3 1, 3) := by decide +kernel
theorem dX6_differences_28 : decode cX6_differences 28 = .ok (.goto (-24), 3) := by decide +kernel
theorem dX6_differences_31 : decode cX6_differences 31 = .ok (.iload_n 2, 1) := by decide +kernel
theorem dX6_differences_32 : decode cX6_differences 32 = .ok (.ireturn, 1) := by decide +kernel
set_option maxRecDepth 20000 in
theorem ggX7_init_Jx4a65c_init_da8c8 : GoodIn wsX7_init wsJx4a65c_init_da8c8 := goodIn_r _ [16, 17, 18, 19, 20, 21, 22, 23, 24, 25, 26, 27, 28, 2, 3, 29, 30, 31] (by decide +kernel) (by decide +kernel)
set_option maxRecDepth 20000 in
theorem gX7_init_Jx4a65c_init_da8c8 : GoodIn wsX7_init (wsJx4a65c_init_da8c8) := ggX7_init_Jx4a65c_init_da8c8
theorem dX7_init_0 : decode cX7_init 0 = .ok (.aload_n 0, 1) := by decide +kernel
theorem dX7_init_1 : decode cX7_init 1 = .ok (.invokespecial 1, 3) := by decide +kernel
theorem dX7_init_4 : decode cX7_init 4 = .ok (.aload_n 0, 1) := by decide +kernel
theorem dX7_init_5 : decode cX7_init 5 = .ok (.new 7, 3) := by decide +kernel
theorem dX7_init_8 : decode cX7_init 8 = .ok (.dup, 1) := by decide +kernel
theorem dX7_init_9 : decode cX7_init 9 = .ok (.invokespecial 9, 3) := by decide +kernel
theorem dX7_init_12 : decode cX7_init 12 = .ok (.putfield 10, 3) := by decide +kernel
theorem dX7_init_15 : decode cX7_init 15 = .ok (.aload_n 0, 1) := by decide +kernel
theorem dX7_init_16 : decode cX7_init 16 = .ok (.new 7, 3) := by decide +kernel
theorem dX7_init_19 : decode cX7_init 19 = .ok (.dup, 1) := by decide +kernel
theorem dX7_init_20 : decode cX7_init 20 = .ok (.invokespecial 9, 3) := by decide +kernel
theorem dX7_init_23 : decode cX7_init 23 = .ok (.putfield 16, 3) := by decide +kernel
theorem dX7_init_26 : decode cX7_init 26 = .ok (.aload_n 0, 1) := by decide +kernel
theorem dX7_init_27 : decode cX7_init 27 = .ok (.new 7, 3) := by decide +kernel
theorem dX7_init_30 : decode cX7_init 30 = .ok (.dup, 1) := by decide +kernel
theorem dX7_init_31 : decode cX7_init 31 = .ok (.invokespecial 9, 3) := by decide +kernel
theorem dX7_init_34 : decode cX7_init 34 = .ok (.putfield 19, 3) := by decide +kernel
theorem dX7_init_37 : decode cX7_init 37 = .ok (.aload_n 0, 1) := by decide +kernel
theorem dX7_init_38 : decode cX7_init 38 = .ok (.new 7, 3) := by decide +kernel
theorem dX7_init_41 : decode cX7_init 41 = .ok (.dup, 1) := by decide +kernel
theorem dX7_init_42 : decode cX7_init 42 = .ok (.invokespecial 9, 3) := by decide +kernel
theorem dX7_init_45 : decode cX7_init 45 = .ok (.putfield 22, 3) := by decide +kernel
theorem dX7_init_48 : decode cX7_init 48 = .ok (.aload_n 0, 1) := by decide +kernel
theorem dX7_init_49 : decode cX7_init 49 = .ok (.new 7, 3) := by decide +kernel
theorem dX7_init_52 : decode cX7_init 52 = .ok (.dup, 1) := by decide +kernel
theorem dX7_init_53 : decode cX7_init 53 = .ok (.invokespecial 9, 3) := by decide +kernel
theorem dX7_init_56 : decode cX7_init 56 = .ok (.putfield 25, 3) := by decide +kernel
theorem dX7_init_59 : decode cX7_init 59 = .ok (.aload_n 0, 1) := by decide +kernel
theorem dX7_init_60 : decode cX7_init 60 = .ok (.iconst 4, 1) := by decide +kernel
theorem dX7_init_61 : decode cX7_init 61 = .ok (.newarray .int, 2) := by decide +kernel
theorem dX7_init_63 : decode cX7_init 63 = .ok (.dup, 1) := by decide +kernel
theorem dX7_init_64 : decode cX7_init 64 = .ok (.iconst 0, 1) := by decide +kernel
theorem dX7_init_65 : decode cX7_init 65 = .ok (.sipush 9999, 3) := by decide +kernel
theorem dX7_init_68 : decode cX7_init 68 = .ok (.iastore, 1) := by decide +kernel
theorem dX7_init_69 : decode cX7_init 69 = .ok (.dup, 1) := by decide +kernel
theorem dX7_init_70 : decode cX7_init 70 = .ok (.iconst 1, 1) := by decide +kernel
theorem dX7_init_71 : decode cX7_init 71 = .ok (.sipush 9999, 3) := by decide +kernel
theorem dX7_init_74 : decode cX7_init 74 = .ok (.iastore, 1) := by decide +kernel
theorem dX7_init_75 : decode cX7_init 75 = .ok (.dup, 1) := by decide +kernel
theorem dX7_init_76 : decode cX7_init 76 = .ok (.iconst 2, 1) := by decide +kernel
theorem dX7_init_77 : decode cX7_init 77 = .ok (.sipush 9999, 3) := by decide +kernel
theorem dX7_init_80 : decode cX7_init 80 = .ok (.iastore, 1) := by decide +kernel
theorem dX7_init_81 : decode cX7_init 81 = .ok (.dup, 1) := by decide +kernel
theorem dX7_init_82 : decode cX7_init 82 = .ok (.iconst 3, 1) := by decide +kernel
theorem dX7_init_83 : decode cX7_init 83 = .ok (.sipush 9999, 3) := by decide +kernel
theorem dX7_init_86 : decode cX7_init 86 = .ok (.iastore, 1) := by decide +kernel
theorem dX7_init_87 : decode cX7_init 87 = .ok (.putfield 28, 3) := by decide +kernel
theorem dX7_init_90 : decode cX7_init 90 = .ok (.return_, 1) := by decide +kernel
set_option maxRecDepth 20000 in
theorem ggX7_addLine_X7_isSource : GoodIn wsX7_addLine wsX7_isSource := goodIn_r _ [16, 17, 18, 15, 19] (by decide +kernel) (by decide +kernel)
set_option maxRecDepth 20000 in
theorem gX7_addLine_X7_isSource : GoodIn wsX7_addLine (va_wsS RX7 32 yX7_isSource wsX7_isSource) := goodIn_app (goodIn_of _ (by decide +kernel)) ggX7_addLine_X7_isSource
set_option maxRecDepth 20000 in
theorem ggX7_addLine_X7_isRank : GoodIn wsX7_addLine wsX7_isRank := goodIn_r _ [22, 17, 18, 15, 19] (by decide +kernel) (by decide +kernel)
set_option maxRecDepth 20000 in
theorem gX7_addLine_X7_isRank : GoodIn wsX7_addLine (va_wsS RX7 36 yX7_isRank wsX7_isRank) := goodIn_app (goodIn_of _ (by decide +kernel)) ggX7_addLine_X7_isRank
set_option maxRecDepth 20000 in
theorem ggX7_addLine_X7_isWord : GoodIn wsX7_addLine wsX7_isWord := goodIn_r _ [25, 17, 18, 15, 19] (by decide +kernel) (by decide +kernel)
set_option maxRecDepth 20000 in
theorem gX7_addLine_X7_isWord : GoodIn wsX7_addLine (va_wsS RX7 39 yX7_isWord wsX7_isWord) := goodIn_app (goodIn_of _ (by decide +kernel)) ggX7_addLine_X7_isWord
set_option maxRecDepth 20000 in
theorem ggX7_addLine_X7_isWithin : GoodIn wsX7_addLine wsX7_isWithin := goodIn_r _ [19] (by decide +kernel) (by decide +kernel)
set_option maxRecDepth 20000 in
theorem gX7_addLine_X7_isWithin : GoodIn wsX7_addLine (va_wsS RX7 42 yX7_isWithin wsX7_isWithin) := goodIn_app (goodIn_of _ (by decide +kernel)) ggX7_addLine_X7_isWithin
set_option maxRecDepth 20000 in
theorem ggX7_addLine_Jx4a65c_size_8abf5 : GoodIn wsX7_addLine wsJx4a65c_size_8abf5 := goodIn_r _ [30, 31, 250, 251, 252] (by decide +kernel) (by decide +kernel)
set_option maxRecDepth 20000 in
theorem gX7_addLine_Jx4a65c_size_8abf5 : GoodIn wsX7_addLine (wsV RX7 53 RJx4a65c yJx4a65c_size_8abf5 wsJx4a65c_size_8abf5) := goodIn_app (goodIn_of _ (by decide +kernel)) ggX7_addLine_Jx4a65c_size_8abf5
set_option maxRecDepth 20000 in
theorem ggX7_addLine_X6_init : GoodIn wsX7_addLine wsX6_init := goodIn_r _ [33, 34, 35, 36, 37, 38, 39, 239, 240, 241] (by decide +kernel) (by decide +kernel)
set_option maxRecDepth 20000 in
theorem gX7_addLine_X6_init_n64 : GoodIn wsX7_addLine (wsX6_init) := ggX7_addLine_X6_init
set_option maxRecDepth 20000 in
theorem ggX7_addLine_X7_patternFor : GoodIn wsX7_addLine wsX7_patternFor := goodIn_r _ [43, 44, 45, 26, 27, 28, 29, 30, 31, 46, 47, 48, 49, 50, 51, 52, 53, 54, 55, 56, 57, 58, 59, 60, 61, 62, 63, 64, 65, 66, 67, 68, 69, 8, 70, 71, 37, 38, 39, 232, 233, 234, 235, 236, 237, 238, 253, 254, 255, 256, 250, 251, 252, 239, 240, 241] (by decide +kernel) (by decide +kernel)
set_option maxRecDepth 20000 in
theorem gX7_addLine_X7_patternFor : GoodIn wsX7_addLine (wsV RX7 67 RX7 yX7_patternFor wsX7_patternFor) := goodIn_app (goodIn_of _ (by decide +kernel)) ggX7_addLine_X7_patternFor
set_option maxRecDepth 20000 in
theorem ggX7_addLine_X7_learn : GoodIn wsX7_addLine wsX7_learn := goodIn_r _ [75, 6, 7, 8, 76, 77, 64, 44, 32, 33, 34, 35, 36, 37, 38, 39, 26, 27, 28, 29, 30, 31, 78, 79, 80, 81, 67, 68, 82, 83, 84, 85, 86, 87, 62, 88, 89, 90, 91, 92, 93, 94, 95, 96, 97, 98, 99, 100, 101, 102, 103, 104, 105, 106, 107, 108, 109, 110, 111, 112, 113, 114, 115, 116, 117, 118, 119, 120, 121, 122, 123, 124, 125, 126, 127, 128, 129, 130, 131, 132, 133, 134, 239, 240, 241, 253, 254, 255, 256, 232, 233, 234, 235, 236, 237, 238, 250, 251, 252] (by decide +kernel) (by decide +kernel)
set_option maxRecDepth 20000 in
theorem gX7_addLine_X7_learn : GoodIn wsX7_addLine (wsV RX7 71 RX7 yX7_learn wsX7_learn) := goodIn_app (goodIn_of _ (by decide +kernel)) ggX7_addLine_X7_learn
set_option maxRecDepth 20000 in
theorem ggX7_addLine_X3_init : GoodIn wsX7_addLine wsX3_init := goodIn_r _ [136, 137, 35, 36, 138, 139, 140, 141, 142, 143, 144, 242, 243, 244, 245, 246, 247, 248, 249] (by decide +kernel) (by decide +kernel)
set_option maxRecDepth 20000 in
theorem gX7_addLine_X3_init_n80 : GoodIn wsX7_addLine (wsX3_init) := ggX7_addLine_X3_init
set_option maxRecDepth 20000 in
theorem ggX7_addLine_Jx4a65c_add_9ea2d : GoodIn wsX7_addLine wsJx4a65c_add_9ea2d := goodIn_r _ [85, 86, 87, 62, 31, 88, 89, 90, 29, 91, 92, 93, 94, 95, 96, 97, 98, 99, 100, 101, 102, 103, 104, 105, 106, 107, 108, 109, 110, 111, 112, 113, 114, 115, 116, 117, 118, 119, 120, 121, 122, 123, 124, 125, 126, 127, 128, 129, 130, 131, 132, 133, 134, 250, 251, 252] (by decide +kernel) (by decide +kernel)
set_option maxRecDepth 20000 in
theorem gX7_addLine_Jx4a65c_add_9ea2d : GoodIn wsX7_addLine (wsV RX7 83 RJx4a65c yJx4a65c_add_9ea2d wsJx4a65c_add_9ea2d) := goodIn_app (goodIn_of _ (by decide +kernel)) ggX7_addLine_Jx4a65c_add_9ea2d
set_option maxRecDepth 20000 in
theorem ggX7_addLine_X7_mergeFrom : GoodIn wsX7_addLine wsX7_mergeFrom := goodIn_r _ [148, 44, 26, 27, 28, 29, 30, 31, 149, 150, 151, 15, 152, 45, 46, 47, 48, 49, 50, 51, 52, 53, 54, 55, 56, 57, 58, 59, 60, 61, 62, 153, 8, 154, 155, 156, 69, 70, 71, 37, 38, 39, 157, 158, 159, 160, 5, 161, 162, 163, 164, 232, 233, 234, 235, 236, 237, 238, 253, 254, 255, 256, 250, 251, 252, 239, 240, 241, 242, 243, 244, 245, 246, 247, 248, 249] (by decide +kernel) (by decide +kernel)
set_option maxRecDepth 20000 in
theorem gX7_addLine_X7_mergeFrom : GoodIn wsX7_addLine (wsV RX7 87 RX7 yX7_mergeFrom wsX7_mergeFrom) := goodIn_app (goodIn_of _ (by decide +kernel)) ggX7_addLine_X7_mergeFrom
set_option maxRecDepth 20000 in
theorem ggX7_addLine_X7_showToAlerts : GoodIn wsX7_addLine wsX7_showToAlerts := goodIn_ca (goodIn_r _ [168, 169, 170, 26, 27, 28, 29, 30, 31, 46, 47, 48, 49, 50, 51, 52, 53, 54, 55, 56, 57, 58, 59, 60, 61, 62, 171, 172, 173, 15, 174, 12, 175, 176, 177, 178, 179, 180, 181, 11, 182, 183, 143, 184, 185, 186, 187, 188, 189, 190, 191, 69, 8, 70, 71, 37, 38, 39, 192, 193, 194, 195, 196, 197, 198, 199, 200, 201, 202, 35, 36, 203, 204, 205, 206, 82, 83, 84, 85, 86, 87, 88, 89, 90, 91, 92, 93, 94, 95, 96, 97, 98, 99, 100, 101, 102, 103, 104, 105, 106, 107, 108, 109, 110, 111, 112, 113, 114, 115, 116, 117, 118, 119, 120, 121, 122, 123, 124, 125, 126, 127, 128, 129, 130, 131, 132, 133, 134, 207, 208, 209, 210, 5, 161, 211, 212, 213, 214, 215, 216, 217, 218, 232, 233, 234, 235, 236, 237, 238, 250, 251, 252, 257, 258, 259, 260, 261, 262, 263, 264, 265, 242, 243, 244, 245, 246, 247, 248, 249, 266, 267, 268, 269, 239, 240, 241, 270, 271, 272, 273, 274] (by decide +kernel) (by decide +kernel)) (goodIn_sub (fun _ h => List.mem_cons_of_mem _ (List.mem_append_right _ h)) (by decide +kernel))
set_option maxRecDepth 20000 in
theorem gX7_addLine_X7_showToAlerts : GoodIn wsX7_addLine (wsV RX7 91 RX7 yX7_showToAlerts wsX7_showToAlerts) := goodIn_app (goodIn_of _ (by decide +kernel)) ggX7_addLine_X7_showToAlerts
set_option maxRecDepth 20000 in
theorem ggX7_addLine_X7_lookAtSource : GoodIn wsX7_addLine wsX7_lookAtSource := goodIn_ca (goodIn_r _ [222, 223, 224, 225, 226, 15, 227, 5, 161, 26, 27, 28, 29, 30, 31, 46, 47, 48, 49, 50, 51, 52, 53, 54, 55, 56, 57, 58, 59, 60, 61, 62, 228, 229, 230, 231, 232, 233, 234, 235, 236, 237, 238, 242, 243, 244, 245, 246, 247, 248, 249, 250, 251, 252] (by decide +kernel) (by decide +kernel)) (goodIn_sub (fun _ h => List.mem_cons_of_mem _ (List.mem_append_right _ h)) (by decide +kernel))
set_option maxRecDepth 20000 in
theorem gX7_addLine_X7_lookAtSource : GoodIn wsX7_addLine (wsV RX7 95 RX7 yX7_lookAtSource wsX7_lookAtSource) := goodIn_app (goodIn_of _ (by decide +kernel)) ggX7_addLine_X7_lookAtSource
theorem dX7_addLine_0 : decode cX7_addLine 0 = .ok (.iload_n 1, 1) := by decide +kernel
theorem dX7_addLine_1 : decode cX7_addLine 1 = .ok (.invokestatic 32, 3) := by decide +kernel
theorem dX7_addLine_4 : decode cX7_addLine 4 = .ok (.ifCond .eq 44, 3) := by decide +kernel
theorem dX7_addLine_7 : decode cX7_addLine 7 = .ok (.iload_n 2, 1) := by decide +kernel
theorem dX7_addLine_8 : decode cX7_addLine 8 = .ok (.invokestatic 36, 3) := by decide +kernel
theorem dX7_addLine_11 : decode cX7_addLine 11 = .ok (.ifCond .eq 37, 3) := by decide +kernel
theorem dX7_addLine_14 : decode cX7_addLine 14 = .ok (.iload_n 3, 1) := by decide +kernel
theorem dX7_addLine_15 : decode cX7_addLine 15 = .ok (.invokestatic 39, 3) := by decide +kernel
theorem dX7_addLine_18 : decode cX7_addLine 18 = .ok (.ifCond .eq 30, 3) := by decide +kernel
theorem dX7_addLine_21 : decode cX7_addLine 21 = .ok (.iload 4, 2) := by decide +kernel
theorem dX7_addLine_23 : decode cX7_addLine 23 = .ok (.invokestatic 39, 3) := by decide +kernel
theorem dX7_addLine_26 : decode cX7_addLine 26 = .ok (.ifCond .eq 22, 3) := by decide +kernel
theorem dX7_addLine_29 : decode cX7_addLine 29 = .ok (.iload 5, 2) := by decide +kernel
theorem dX7_addLine_31 : decode cX7_addLine 31 = .ok (.invokestatic 39, 3) := by decide +kernel
theorem dX7_addLine_34 : decode cX7_addLine 34 = .ok (.ifCond .eq 14, 3) := by decide +kernel
theorem dX7_addLine_37 : decode cX7_addLine 37 = .ok (.iload 6, 2) := by decide +kernel
theorem dX7_addLine_39 : decode cX7_addLine 39 = .ok (.iconst 1, 1) := by decide +kernel
theorem dX7_addLine_40 : decode cX7_addLine 40 = .ok (.bipush 99, 2) := by decide +kernel
theorem dX7_addLine_42 : decode cX7_addLine 42 = .ok (.invokestatic 42, 3) := by decide +kernel
theorem dX7_addLine_45 : decode cX7_addLine 45 = .ok (.ifCond .ne 13, 3) := by decide +kernel
theorem dX7_addLine_48 : decode cX7_addLine 48 = .ok (.new 46, 3) := by decide +kernel
theorem dX7_addLine_51 : decode cX7_addLine 51 = .ok (.dup, 1) := by decide +kernel
theorem dX7_addLine_52 : decode cX7_addLine 52 = .ok (.ldc 48, 2) := by decide +kernel
theorem dX7_addLine_54 : decode cX7_addLine 54 = .ok (.invokespecial 50, 3) := by decide +kernel
theorem dX7_addLine_57 : decode cX7_addLine 57 = .ok (.athrow, 1) := by decide +kernel
theorem dX7_addLine_58 : decode cX7_addLine 58 = .ok (.aload_n 0, 1) := by decide +kernel
theorem dX7_addLine_59 : decode cX7_addLine 59 = .ok (.getfield 10, 3) := by decide +kernel
theorem dX7_addLine_62 : decode cX7_addLine 62 = .ok (.invokevirtual 53, 3) := by decide +kernel
theorem dX7_addLine_65 : decode cX7_addLine 65 = .ok (.sipush 200, 3) := by decide +kernel
theorem dX7_addLine_68 : decode cX7_addLine 68 = .ok (.if_icmp .lt 13, 3) := by decide +kernel
theorem dX7_addLine_71 : decode cX7_addLine 71 = .ok (.new 57, 3) := by decide +kernel
theorem dX7_addLine_74 : decode cX7_addLine 74 = .ok (.dup, 1) := by decide +kernel
theorem dX7_addLine_75 : decode cX7_addLine 75 = .ok (.ldc 59, 2) := by decide +kernel
theorem dX7_addLine_77 : decode cX7_addLine 77 = .ok (.invokespecial 61, 3) := by decide +kernel
theorem dX7_addLine_80 : decode cX7_addLine 80 = .ok (.athrow, 1) := by decide +kernel
theorem dX7_addLine_81 : decode cX7_addLine 81 = .ok (.aload_n 0, 1) := by decide +kernel
theorem dX7_addLine_82 : decode cX7_addLine 82 = .ok (.getfield 10, 3) := by decide +kernel
theorem dX7_addLine_85 : decode cX7_addLine 85 = .ok (.invokevirtual 53, 3) := by decide +kernel
theorem dX7_addLine_88 : decode cX7_addLine 88 = .ok (.istore 7, 2) := by decide +kernel
theorem dX7_addLine_90 : decode cX7_addLine 90 = .ok (.new 62, 3) := by decide +kernel
theorem dX7_addLine_93 : decode cX7_addLine 93 = .ok (.dup, 1) := by decide +kernel
theorem dX7_addLine_94 : decode cX7_addLine 94 = .ok (.iload_n 3, 1) := by decide +kernel
theorem dX7_addLine_95 : decode cX7_addLine 95 = .ok (.iload 4, 2) := by decide +kernel
theorem dX7_addLine_97 : decode cX7_addLine 97 = .ok (.iload 5, 2) := by decide +kernel
theorem dX7_addLine_99 : decode cX7_addLine 99 = .ok (.invokespecial 64, 3) := by decide +kernel
theorem dX7_addLine_102 : decode cX7_addLine 102 = .ok (.astore 8, 2) := by decide +kernel
theorem dX7_addLine_104 : decode cX7_addLine 104 = .ok (.aload_n 0, 1) := by decide +kernel
theorem dX7_addLine_105 : decode cX7_addLine 105 = .ok (.iload_n 1, 1) := by decide +kernel
theorem dX7_addLine_106 : decode cX7_addLine 106 = .ok (.aload 8, 2) := by decide +kernel
theorem dX7_addLine_108 : decode cX7_addLine 108 = .ok (.invokevirtual 67, 3) := by decide +kernel
theorem dX7_addLine_111 : decode cX7_addLine 111 = .ok (.astore 9, 2) := by decide +kernel
theorem dX7_addLine_113 : decode cX7_addLine 113 = .ok (.aload 9, 2) := by decide +kernel
theorem dX7_addLine_115 : decode cX7_addLine 115 = .ok (.ifnonnull 13, 3) := by decide +kernel
theorem dX7_addLine_118 : decode cX7_addLine 118 = .ok (.aload_n 0, 1) := by decide +kernel
theorem dX7_addLine_119 : decode cX7_addLine 119 = .ok (.iload_n 1, 1) := by decide +kernel
theorem dX7_addLine_120 : decode cX7_addLine 120 = .ok (.aload 8, 2) := by decide +kernel
theorem dX7_addLine_122 : decode cX7_addLine 122 = .ok (.invokevirtual 71, 3) := by decide +kernel
theorem dX7_addLine_125 : decode cX7_addLine 125 = .ok (.goto 5, 3) := by decide +kernel
theorem dX7_addLine_128 : decode cX7_addLine 128 = .ok (.aload 9, 2) := by decide +kernel
theorem dX7_addLine_130 : decode cX7_addLine 130 = .ok (.astore 10, 2) := by decide +kernel
theorem dX7_addLine_132 : decode cX7_addLine 132 = .ok (.new 74, 3) := by decide +kernel
theorem dX7_addLine_135 : decode cX7_addLine 135 = .ok (.dup, 1) := by decide +kernel
theorem dX7_addLine_136 : decode cX7_addLine 136 = .ok (.iload_n 1, 1) := by decide +kernel
theorem dX7_addLine_137 : decode cX7_addLine 137 = .ok (.iload_n 2, 1) := by decide +kernel
theorem dX7_addLine_138 : decode cX7_addLine 138 = .ok (.aload 8, 2) := by decide +kernel
theorem dX7_addLine_140 : decode cX7_addLine 140 = .ok (.iload 6, 2) := by decide +kernel
theorem dX7_addLine_142 : decode cX7_addLine 142 = .ok (.aload_n 0, 1) := by decide +kernel
theorem dX7_addLine_143 : decode cX7_addLine 143 = .ok (.getfield 76, 3) := by decide +kernel
theorem dX7_addLine_146 : decode cX7_addLine 146 = .ok (.aload 10, 2) := by decide +kernel
theorem dX7_addLine_148 : decode cX7_addLine 148 = .ok (.invokespecial 80, 3) := by decide +kernel
theorem dX7_addLine_151 : decode cX7_addLine 151 = .ok (.astore 11, 2) := by decide +kernel
theorem dX7_addLine_153 : decode cX7_addLine 153 = .ok (.aload_n 0, 1) := by decide +kernel
theorem dX7_addLine_154 : decode cX7_addLine 154 = .ok (.getfield 10, 3) := by decide +kernel
theorem dX7_addLine_157 : decode cX7_addLine 157 = .ok (.aload 11, 2) := by decide +kernel
theorem dX7_addLine_159 : decode cX7_addLine 159 = .ok (.invokevirtual 83, 3) := by decide +kernel
theorem dX7_addLine_162 : decode cX7_addLine 162 = .ok (.pop, 1) := by decide +kernel
theorem dX7_addLine_163 : decode cX7_addLine 163 = .ok (.aload 9, 2) := by decide +kernel
theorem dX7_addLine_165 : decode cX7_addLine 165 = .ok (.ifnonnull 9, 3) := by decide +kernel
theorem dX7_addLine_168 : decode cX7_addLine 168 = .ok (.aload_n 0, 1) := by decide +kernel
theorem dX7_addLine_169 : decode cX7_addLine 169 = .ok (.aload 10, 2) := by decide +kernel
theorem dX7_addLine_171 : decode cX7_addLine 171 = .ok (.invokevirtual 87, 3) := by decide +kernel
theorem dX7_addLine_174 : decode cX7_addLine 174 = .ok (.aload_n 0, 1) := by decide +kernel
theorem dX7_addLine_175 : decode cX7_addLine 175 = .ok (.aload 11, 2) := by decide +kernel
theorem dX7_addLine_177 : decode cX7_addLine 177 = .ok (.invokevirtual 91, 3) := by decide +kernel
theorem dX7_addLine_180 : decode cX7_addLine 180 = .ok (.aload_n 0, 1) := by decide +kernel
theorem dX7_addLine_181 : decode cX7_addLine 181 = .ok (.iload_n 1, 1) := by decide +kernel
theorem dX7_addLine_182 : decode cX7_addLine 182 = .ok (.invokevirtual 95, 3) := by decide +kernel
theorem dX7_addLine_185 : decode cX7_addLine 185 = .ok (.pop, 1) := by decide +kernel
theorem dX7_addLine_186 : decode cX7_addLine 186 = .ok (.iload 7, 2) := by decide +kernel
theorem dX7_addLine_188 : decode cX7_addLine 188 = .ok (.ireturn, 1) := by decide +kernel
set_option maxRecDepth 20000 in
theorem ggX7_lines_Jx4a65c_size_8abf5 : GoodIn wsX7_lines wsJx4a65c_size_8abf5 := goodIn_r _ [6, 7, 15, 16, 17] (by decide +kernel) (by decide +kernel)
set_option maxRecDepth 20000 in
theorem gX7_lines_Jx4a65c_size_8abf5 : GoodIn wsX7_lines (wsV RX7 53 RJx4a65c yJx4a65c_size_8abf5 wsJx4a65c_size_8abf5) := goodIn_app (goodIn_of _ (by decide +kernel)) ggX7_lines_Jx4a65c_size_8abf5
theorem dX7_lines_0 : decode cX7_lines 0 = .ok (.aload_n 0, 1) := by decide +kernel
theorem dX7_lines_1 : decode cX7_lines 1 = .ok (.getfield 10, 3) := by decide +kernel
theorem dX7_lines_4 : decode cX7_lines 4 = .ok (.invokevirtual 53, 3) := by decide +kernel
theorem dX7_lines_7 : decode cX7_lines 7 = .ok (.ireturn, 1) := by decide +kernel
set_option maxRecDepth 20000 in
theorem ggX7_stateOf_X7_lineNumbered : GoodIn wsX7_stateOf wsX7_lineNumbered := goodIn_ca (goodIn_r _ [5, 6, 7, 8, 9, 10, 11, 12, 13, 14, 15, 16, 17, 18, 19, 20, 21, 22, 23, 24, 25, 26, 27, 28, 29, 30, 31, 32, 41, 42, 43, 44, 45, 46, 47, 48, 49, 50] (by decide +kernel) (by decide +kernel)) (goodIn_sub (fun _ h => List.mem_cons_of_mem _ (List.mem_append_right _ h)) (by decide +kernel))
set_option maxRecDepth 20000 in
theorem gX7_stateOf_X7_lineNumbered : GoodIn wsX7_stateOf (wsV RX7 99 RX7 yX7_lineNumbered wsX7_lineNumbered) := goodIn_app (goodIn_of _ (by decide +kernel)) ggX7_stateOf_X7_lineNumbered
theorem dX7_stateOf_0 : decode cX7_stateOf 0 = .ok (.aload_n 0, 1) := by decide +kernel
theorem dX7_stateOf_1 : decode cX7_stateOf 1 = .ok (.iload_n 1, 1) := by decide +kernel
theorem dX7_stateOf_2 : decode cX7_stateOf 2 = .ok (.invokevirtual 99, 3) := by decide +kernel
theorem dX7_stateOf_5 : decode cX7_stateOf 5 = .ok (.getfield 103, 3) := by decide +kernel
theorem dX7_stateOf_8 : decode cX7_stateOf 8 = .ok (.ireturn, 1) := by decide +kernel
set_option maxRecDepth 20000 in
theorem ggX7_patternOf_X7_lineNumbered : GoodIn wsX7_patternOf wsX7_lineNumbered := goodIn_ca (goodIn_r _ [5, 6, 7, 8, 9, 10, 11, 12, 13, 14, 15, 16, 17, 18, 19, 20, 21, 22, 23, 24, 25, 26, 27, 28, 29, 30, 31, 32, 45, 46, 47, 48, 49, 50, 51, 52, 53, 54] (by decide +kernel) (by decide +kernel)) (goodIn_sub (fun _ h => List.mem_cons_of_mem _ (List.mem_append_right _ h)) (by decide +kernel))
set_option maxRecDepth 20000 in
theorem gX7_patternOf_X7_lineNumbered : GoodIn wsX7_patternOf (wsV RX7 99 RX7 yX7_lineNumbered wsX7_lineNumbered) := goodIn_app (goodIn_of _ (by decide +kernel)) ggX7_patternOf_X7_lineNumbered
theorem dX7_patternOf_0 : decode cX7_patternOf 0 = .ok (.aload_n 0, 1) := by decide +kernel
theorem dX7_patternOf_1 : decode cX7_patternOf 1 = .ok (.iload_n 1, 1) := by decide +kernel
theorem dX7_patternOf_2 : decode cX7_patternOf 2 = .ok (.invokevirtual 99, 3) := by decide +kernel
theorem dX7_patternOf_5 : decode cX7_patternOf 5 = .ok (.getfield 107, 3) := by decide +kernel
theorem dX7_patternOf_8 : decode cX7_patternOf 8 = .ok (.getfield 111, 3) := by decide +kernel
theorem dX7_patternOf_11 : decode cX7_patternOf 11 = .ok (.ireturn, 1) := by decide +kernel
set_option maxRecDepth 20000 in
theorem ggX7_patterns_X7_checkSource : GoodIn wsX7_patterns wsX7_checkSource := goodIn_ca (goodIn_r _ [6, 7, 8, 9, 10, 5, 11, 12, 13, 14] (by decide +kernel) (by decide +kernel)) (goodIn_sub (fun _ h => List.mem_cons_of_mem _ (List.mem_append_right _ h)) (by decide +kernel))
set_option maxRecDepth 20000 in
theorem gX7_patterns_X7_checkSource : GoodIn wsX7_patterns (va_wsS RX7 116 yX7_checkSource wsX7_checkSource) := goodIn_app (goodIn_of _ (by decide +kernel)) ggX7_patterns_X7_checkSource
set_option maxRecDepth 20000 in
theorem ggX7_patterns_Jx4a65c_size_8abf5 : GoodIn wsX7_patterns wsJx4a65c_size_8abf5 := goodIn_r _ [19, 20, 49, 50, 51] (by decide +kernel) (by decide +kernel)
set_option maxRecDepth 20000 in
theorem gX7_patterns_Jx4a65c_size_8abf5 : GoodIn wsX7_patterns (wsV RX7 53 RJx4a65c yJx4a65c_size_8abf5 wsJx4a65c_size_8abf5) := goodIn_app (goodIn_of _ (by decide +kernel)) ggX7_patterns_Jx4a65c_size_8abf5
set_option maxRecDepth 20000 in
theorem ggX7_patterns_Jx4a65c_get_915e3 : GoodIn wsX7_patterns wsJx4a65c_get_915e3 := goodIn_r _ [24, 20, 25, 26, 27, 28, 29, 30, 31, 32, 33, 34, 35, 18, 36, 37, 49, 50, 51] (by decide +kernel) (by decide +kernel)
set_option maxRecDepth 20000 in
theorem gX7_patterns_Jx4a65c_get_915e3 : GoodIn wsX7_patterns (wsV RX7 120 RJx4a65c yJx4a65c_get_915e3 wsJx4a65c_get_915e3) := goodIn_app (goodIn_of _ (by decide +kernel)) ggX7_patterns_Jx4a65c_get_915e3
theorem dX7_patterns_0 : decode cX7_patterns 0 = .ok (.iload_n 1, 1) := by decide +kernel
theorem dX7_patterns_1 : decode cX7_patterns 1 = .ok (.invokestatic 116, 3) := by decide +kernel
theorem dX7_patterns_4 : decode cX7_patterns 4 = .ok (.iconst 0, 1) := by decide +kernel
theorem dX7_patterns_5 : decode cX7_patterns 5 = .ok (.istore_n 2, 1) := by decide +kernel
theorem dX7_patterns_6 : decode cX7_patterns 6 = .ok (.iconst 0, 1) := by decide +kernel
theorem dX7_patterns_7 : decode cX7_patterns 7 = .ok (.istore_n 3, 1) := by decide +kernel
theorem dX7_patterns_8 : decode cX7_patterns 8 = .ok (.iload_n 3, 1) := by decide +kernel
theorem dX7_patterns_9 : decode cX7_patterns 9 = .ok (.aload_n 0, 1) := by decide +kernel
theorem dX7_patterns_10 : decode cX7_patterns 10 = .ok (.getfield 16, 3) := by decide +kernel
theorem dX7_patterns_13 : decode cX7_patterns 13 = .ok (.invokevirtual 53, 3) := by decide +kernel
theorem dX7_patterns_16 : decode cX7_patterns 16 = .ok (.if_icmp .ge 42, 3) := by decide +kernel
theorem dX7_patterns_19 : decode cX7_patterns 19 = .ok (.aload_n 0, 1) := by decide +kernel
theorem dX7_patterns_20 : decode cX7_patterns 20 = .ok (.getfield 16, 3) := by decide +kernel
theorem dX7_patterns_23 : decode cX7_patterns 23 = .ok (.iload_n 3, 1) := by decide +kernel
theorem dX7_patterns_24 : decode cX7_patterns 24 = .ok (.invokevirtual 120, 3) := by decide +kernel
theorem dX7_patterns_27 : decode cX7_patterns 27 = .ok (.checkcast 112, 3) := by decide +kernel
theorem dX7_patterns_30 : decode cX7_patterns 30 = .ok (.astore 4, 2) := by decide +kernel
theorem dX7_patterns_32 : decode cX7_patterns 32 = .ok (.aload 4, 2) := by decide +kernel
theorem dX7_patterns_34 : decode cX7_patterns 34 = .ok (.getfield 124, 3) := by decide +kernel
theorem dX7_patterns_37 : decode cX7_patterns 37 = .ok (.iload_n 1, 1) := by decide +kernel
theorem dX7_patterns_38 : decode cX7_patterns 38 = .ok (.if_icmp .ne 14, 3) := by decide +kernel
theorem dX7_patterns_41 : decode cX7_patterns 41 = .ok (.aload 4, 2) := by decide +kernel
theorem dX7_patterns_43 : decode cX7_patterns 43 = .ok (.getfield 127, 3) := by decide +kernel
theorem dX7_patterns_46 : decode cX7_patterns 46 = .ok (.ifCond .ne 6, 3) := by decide +kernel
theorem dX7_patterns_49 : decode cX7_patterns 49 = .ok (.iinc 2 1, 3) := by decide +kernel
theorem dX7_patterns_52 : decode cX7_patterns 52 = .ok (.iinc 3 1, 3) := by decide +kernel
theorem dX7_patterns_55 : decode cX7_patterns 55 = .ok (.goto (-47), 3) := by decide +kernel
theorem dX7_patterns_58 : decode cX7_patterns 58 = .ok (.iload_n 2, 1) := by decide +kernel
theorem dX7_patterns_59 : decode cX7_patterns 59 = .ok (.ireturn, 1) := by decide +kernel
set_option maxRecDepth 20000 in
theorem ggX7_wordAt_X7_patternNumbered : GoodIn wsX7_wordAt wsX7_patternNumbered := goodIn_ca (goodIn_r _ [5, 6, 7, 8, 9, 10, 11, 12, 13, 14, 15, 16, 17, 18, 19, 20, 21, 22, 23, 24, 25, 26, 27, 28, 29, 30, 31, 32, 52, 53, 54, 55, 56, 57, 58, 48, 49, 50, 51, 59, 60, 61] (by decide +kernel) (by decide +kernel)) (goodIn_sub (fun _ h => List.mem_cons_of_mem _ (List.mem_append_left _ (List.mem_append_right _ h))) (by decide +kernel))
set_option maxRecDepth 20000 in
theorem gX7_wordAt_X7_patternNumbered : GoodIn wsX7_wordAt (wsV RX7 131 RX7 yX7_patternNumbered wsX7_patternNumbered) := goodIn_app (goodIn_of _ (by decide +kernel)) ggX7_wordAt_X7_patternNumbered
set_option maxRecDepth 20000 in
theorem ggX7_wordAt_X7_checkPlace : GoodIn wsX7_wordAt wsX7_checkPlace := goodIn_ca (goodIn_r _ [35, 36, 37, 38, 39, 4, 40] (by decide +kernel) (by decide +kernel)) (goodIn_sub (fun _ h => List.mem_cons_of_mem _ (List.mem_append_right _ h)) (by decide +kernel))
set_option maxRecDepth 20000 in
theorem gX7_wordAt_X7_checkPlace : GoodIn wsX7_wordAt (va_wsS RX7 135 yX7_checkPlace wsX7_checkPlace) := goodIn_app (goodIn_of _ (by decide +kernel)) ggX7_wordAt_X7_checkPlace
set_option maxRecDepth 20000 in
theorem ggX7_wordAt_X6_at : GoodIn wsX7_wordAt wsX6_at := goodIn_r _ [44, 45, 46, 47, 62, 63, 64] (by decide +kernel) (by decide +kernel)
set_option maxRecDepth 20000 in
theorem gX7_wordAt_X6_at_n142 : GoodIn wsX7_wordAt (wsX6_at) := ggX7_wordAt_X6_at
theorem dX7_wordAt_0 : decode cX7_wordAt 0 = .ok (.aload_n 0, 1) := by decide +kernel
theorem dX7_wordAt_1 : decode cX7_wordAt 1 = .ok (.iload_n 1, 1) := by decide +kernel
theorem dX7_wordAt_2 : decode cX7_wordAt 2 = .ok (.invokevirtual 131, 3) := by decide +kernel
theorem dX7_wordAt_5 : decode cX7_wordAt 5 = .ok (.astore_n 3, 1) := by decide +kernel
theorem dX7_wordAt_6 : decode cX7_wordAt 6 = .ok (.iload_n 2, 1) := by decide +kernel
theorem dX7_wordAt_7 : decode cX7_wordAt 7 = .ok (.invokestatic 135, 3) := by decide +kernel
theorem dX7_wordAt_10 : decode cX7_wordAt 10 = .ok (.aload_n 3, 1) := by decide +kernel
theorem dX7_wordAt_11 : decode cX7_wordAt 11 = .ok (.getfield 138, 3) := by decide +kernel
theorem dX7_wordAt_14 : decode cX7_wordAt 14 = .ok (.iload_n 2, 1) := by decide +kernel
theorem dX7_wordAt_15 : decode cX7_wordAt 15 = .ok (.invokevirtual 142, 3) := by decide +kernel
theorem dX7_wordAt_18 : decode cX7_wordAt 18 = .ok (.ireturn, 1) := by decide +kernel
set_option maxRecDepth 20000 in
theorem ggX7_linesOf_X7_patternNumbered : GoodIn wsX7_linesOf wsX7_patternNumbered := goodIn_ca (goodIn_r _ [7, 8, 9, 10, 11, 12, 13, 14, 15, 16, 17, 18, 19, 20, 21, 22, 23, 24, 25, 26, 27, 28, 29, 30, 31, 32, 33, 34, 35, 36, 37, 38, 39, 40, 41, 50, 51, 52, 53, 54, 55, 56] (by decide +kernel) (by decide +kernel)) (goodIn_sub (fun _ h => List.mem_cons_of_mem _ (List.mem_append_right _ h)) (by decide +kernel))
set_option maxRecDepth 20000 in
theorem gX7_linesOf_X7_patternNumbered : GoodIn wsX7_linesOf (wsV RX7 131 RX7 yX7_patternNumbered wsX7_patternNumbered) := goodIn_app (goodIn_of _ (by decide +kernel)) ggX7_linesOf_X7_patternNumbered
set_option maxRecDepth 20000 in
theorem ggX7_linesOf_Jx4a65c_size_8abf5 : GoodIn wsX7_linesOf wsJx4a65c_size_8abf5 := goodIn_r _ [16, 17, 54, 55, 56] (by decide +kernel) (by decide +kernel)
set_option maxRecDepth 20000 in
theorem gX7_linesOf_Jx4a65c_size_8abf5 : GoodIn wsX7_linesOf (wsV RX7 53 RJx4a65c yJx4a65c_size_8abf5 wsJx4a65c_size_8abf5) := goodIn_app (goodIn_of _ (by decide +kernel)) ggX7_linesOf_Jx4a65c_size_8abf5
set_option maxRecDepth 20000 in
theorem ggX7_linesOf_Jx4a65c_get_915e3 : GoodIn wsX7_linesOf wsJx4a65c_get_915e3 := goodIn_r _ [21, 17, 22, 23, 24, 25, 26, 27, 28, 29, 30, 31, 32, 15, 33, 34, 54, 55, 56] (by decide +kernel) (by decide +kernel)
set_option maxRecDepth 20000 in
theorem gX7_linesOf_Jx4a65c_get_915e3 : GoodIn wsX7_linesOf (wsV RX7 120 RJx4a65c yJx4a65c_get_915e3 wsJx4a65c_get_915e3) := goodIn_app (goodIn_of _ (by decide +kernel)) ggX7_linesOf_Jx4a65c_get_915e3
theorem dX7_linesOf_0 : decode cX7_linesOf 0 = .ok (.aload_n 0, 1) := by decide +kernel
theorem dX7_linesOf_1 : decode cX7_linesOf 1 = .ok (.iload_n 1, 1) := by decide +kernel
theorem dX7_linesOf_2 : decode cX7_linesOf 2 = .ok (.invokevirtual 131, 3) := by decide +kernel
theorem dX7_linesOf_5 : decode cX7_linesOf 5 = .ok (.astore_n 2, 1) := by decide +kernel
theorem dX7_linesOf_6 : decode cX7_linesOf 6 = .ok (.iconst 0, 1) := by decide +kernel
theorem dX7_linesOf_7 : decode cX7_linesOf 7 = .ok (.istore_n 3, 1) := by decide +kernel
theorem dX7_linesOf_8 : decode cX7_linesOf 8 = .ok (.iconst 0, 1) := by decide +kernel
theorem dX7_linesOf_9 : decode cX7_linesOf 9 = .ok (.istore 4, 2) := by decide +kernel
theorem dX7_linesOf_11 : decode cX7_linesOf 11 = .ok (.iload 4, 2) := by decide +kernel
theorem dX7_linesOf_13 : decode cX7_linesOf 13 = .ok (.aload_n 0, 1) := by decide +kernel
theorem dX7_linesOf_14 : decode cX7_linesOf 14 = .ok (.getfield 10, 3) := by decide +kernel
theorem dX7_linesOf_17 : decode cX7_linesOf 17 = .ok (.invokevirtual 53, 3) := by decide +kernel
theorem dX7_linesOf_20 : decode cX7_linesOf 20 = .ok (.if_icmp .ge 31, 3) := by decide +kernel
theorem dX7_linesOf_23 : decode cX7_linesOf 23 = .ok (.aload_n 0, 1) := by decide +kernel
theorem dX7_linesOf_24 : decode cX7_linesOf 24 = .ok (.getfield 10, 3) := by decide +kernel
theorem dX7_linesOf_27 : decode cX7_linesOf 27 = .ok (.iload 4, 2) := by decide +kernel
theorem dX7_linesOf_29 : decode cX7_linesOf 29 = .ok (.invokevirtual 120, 3) := by decide +kernel
theorem dX7_linesOf_32 : decode cX7_linesOf 32 = .ok (.checkcast 74, 3) := by decide +kernel
theorem dX7_linesOf_35 : decode cX7_linesOf 35 = .ok (.getfield 107, 3) := by decide +kernel
theorem dX7_linesOf_38 : decode cX7_linesOf 38 = .ok (.aload_n 2, 1) := by decide +kernel
theorem dX7_linesOf_39 : decode cX7_linesOf 39 = .ok (.if_acmp .ne 6, 3) := by decide +kernel
theorem dX7_linesOf_42 : decode cX7_linesOf 42 = .ok (.iinc 3 1, 3) := by decide +kernel
theorem dX7_linesOf_45 : decode cX7_linesOf 45 = .ok (.iinc 4 1, 3) := by decide +kernel
theorem dX7_linesOf_48 : decode cX7_linesOf 48 = .ok (.goto (-37), 3) := by decide +kernel
theorem dX7_linesOf_51 : decode cX7_linesOf 51 = .ok (.iload_n 3, 1) := by decide +kernel
theorem dX7_linesOf_52 : decode cX7_linesOf 52 = .ok (.ireturn, 1) := by decide +kernel
set_option maxRecDepth 20000 in
theorem ggX7_values_X7_patternNumbered : GoodIn wsX7_values wsX7_patternNumbered := goodIn_ca (goodIn_r _ [7, 8, 9, 10, 11, 12, 13, 14, 15, 16, 17, 18, 19, 20, 21, 22, 23, 24, 25, 26, 27, 28, 29, 30, 31, 32, 33, 34, 57, 58, 59, 60, 61, 62, 63, 72, 73, 74, 75, 76, 77, 78] (by decide +kernel) (by decide +kernel)) (goodIn_sub (fun _ h => List.mem_cons_of_mem _ (List.mem_append_left _ (List.mem_append_right _ h))) (by decide +kernel))
set_option maxRecDepth 20000 in
theorem gX7_values_X7_patternNumbered : GoodIn wsX7_values (wsV RX7 131 RX7 yX7_patternNumbered wsX7_patternNumbered) := goodIn_app (goodIn_of _ (by decide +kernel)) ggX7_values_X7_patternNumbered
set_option maxRecDepth 20000 in
theorem ggX7_values_X7_checkPlace : GoodIn wsX7_values wsX7_checkPlace := goodIn_ca (goodIn_r _ [37, 38, 39, 40, 41, 6, 42] (by decide +kernel) (by decide +kernel)) (goodIn_sub (fun _ h => List.mem_cons_of_mem _ (List.mem_append_right _ h)) (by decide +kernel))
set_option maxRecDepth 20000 in
theorem gX7_values_X7_checkPlace : GoodIn wsX7_values (va_wsS RX7 135 yX7_checkPlace wsX7_checkPlace) := goodIn_app (goodIn_of _ (by decide +kernel)) ggX7_values_X7_checkPlace
set_option maxRecDepth 20000 in
theorem ggX7_values_Jx4a65c_size_8abf5 : GoodIn wsX7_values wsJx4a65c_size_8abf5 := goodIn_r _ [16, 17, 76, 77, 78] (by decide +kernel) (by decide +kernel)
set_option maxRecDepth 20000 in
theorem gX7_values_Jx4a65c_size_8abf5 : GoodIn wsX7_values (wsV RX7 53 RJx4a65c yJx4a65c_size_8abf5 wsJx4a65c_size_8abf5) := goodIn_app (goodIn_of _ (by decide +kernel)) ggX7_values_Jx4a65c_size_8abf5
set_option maxRecDepth 20000 in
theorem ggX7_values_Jx4a65c_get_915e3 : GoodIn wsX7_values wsJx4a65c_get_915e3 := goodIn_r _ [21, 17, 22, 23, 24, 25, 26, 27, 28, 29, 30, 31, 32, 15, 33, 34, 76, 77, 78] (by decide +kernel) (by decide +kernel)
set_option maxRecDepth 20000 in
theorem gX7_values_Jx4a65c_get_915e3 : GoodIn wsX7_values (wsV RX7 120 RJx4a65c yJx4a65c_get_915e3 wsJx4a65c_get_915e3) := goodIn_app (goodIn_of _ (by decide +kernel)) ggX7_values_Jx4a65c_get_915e3
set_option maxRecDepth 20000 in
theorem ggX7_values_X6_at : GoodIn wsX7_values wsX6_at := goodIn_r _ [46, 47, 48, 49, 79, 80, 81] (by decide +kernel) (by decide +kernel)
set_option maxRecDepth 20000 in
theorem gX7_values_X6_at_n142 : GoodIn wsX7_values (wsX6_at) := ggX7_values_X6_at
set_option maxRecDepth 20000 in
theorem ggX7_values_J13_bitCount_95d88 : GoodIn wsX7_values wsJ13_bitCount_95d88 := goodIn_r _ [53, 54, 55, 56] (by decide +kernel) (by decide +kernel)
set_option maxRecDepth 20000 in
theorem gX7_values_J13_bitCount_95d88 : GoodIn wsX7_values (va_wsS RX7 146 yJ13_bitCount_95d88 wsJ13_bitCount_95d88) := goodIn_app (goodIn_of _ (by decide +kernel)) ggX7_values_J13_bitCount_95d88
theorem dX7_values_0 : decode cX7_values 0 = .ok (.aload_n 0, 1) := by decide +kernel
theorem dX7_values_1 : decode cX7_values 1 = .ok (.iload_n 1, 1) := by decide +kernel
theorem dX7_values_2 : decode cX7_values 2 = .ok (.invokevirtual 131, 3) := by decide +kernel
theorem dX7_values_5 : decode cX7_values 5 = .ok (.astore_n 3, 1) := by decide +kernel
theorem dX7_values_6 : decode cX7_values 6 = .ok (.iload_n 2, 1) := by decide +kernel
theorem dX7_values_7 : decode cX7_values 7 = .ok (.invokestatic 135, 3) := by decide +kernel
theorem dX7_values_10 : decode cX7_values 10 = .ok (.lconst 0, 1) := by decide +kernel
theorem dX7_values_11 : decode cX7_values 11 = .ok (.lstore 4, 2) := by decide +kernel
theorem dX7_values_13 : decode cX7_values 13 = .ok (.lconst 0, 1) := by decide +kernel
theorem dX7_values_14 : decode cX7_values 14 = .ok (.lstore 6, 2) := by decide +kernel
theorem dX7_values_16 : decode cX7_values 16 = .ok (.iconst 0, 1) := by decide +kernel
theorem dX7_values_17 : decode cX7_values 17 = .ok (.istore 8, 2) := by decide +kernel
theorem dX7_values_19 : decode cX7_values 19 = .ok (.iload 8, 2) := by decide +kernel
theorem dX7_values_21 : decode cX7_values 21 = .ok (.aload_n 0, 1) := by decide +kernel
theorem dX7_values_22 : decode cX7_values 22 = .ok (.getfield 10, 3) := by decide +kernel
theorem dX7_values_25 : decode cX7_values 25 = .ok (.invokevirtual 53, 3) := by decide +kernel
theorem dX7_values_28 : decode cX7_values 28 = .ok (.if_icmp .ge 74, 3) := by decide +kernel
theorem dX7_values_31 : decode cX7_values 31 = .ok (.aload_n 0, 1) := by decide +kernel
theorem dX7_values_32 : decode cX7_values 32 = .ok (.getfield 10, 3) := by decide +kernel
theorem dX7_values_35 : decode cX7_values 35 = .ok (.iload 8, 2) := by decide +kernel
theorem dX7_values_37 : decode cX7_values 37 = .ok (.invokevirtual 120, 3) := by decide +kernel
theorem dX7_values_40 : decode cX7_values 40 = .ok (.checkcast 74, 3) := by decide +kernel
theorem dX7_values_43 : decode cX7_values 43 = .ok (.astore 9, 2) := by decide +kernel
theorem dX7_values_45 : decode cX7_values 45 = .ok (.aload 9, 2) := by decide +kernel
theorem dX7_values_47 : decode cX7_values 47 = .ok (.getfield 107, 3) := by decide +kernel
theorem dX7_values_50 : decode cX7_values 50 = .ok (.aload_n 3, 1) := by decide +kernel
theorem dX7_values_51 : decode cX7_values 51 = .ok (.if_acmp .ne 45, 3) := by decide +kernel
theorem dX7_values_54 : decode cX7_values 54 = .ok (.aload 9, 2) := by decide +kernel
theorem dX7_values_56 : decode cX7_values 56 = .ok (.getfield 145, 3) := by decide +kernel
theorem dX7_values_59 : decode cX7_values 59 = .ok (.iload_n 2, 1) := by decide +kernel
theorem dX7_values_60 : decode cX7_values 60 = .ok (.invokevirtual 142, 3) := by decide +kernel
theorem dX7_values_63 : decode cX7_values 63 = .ok (.istore 10, 2) := by decide +kernel
theorem dX7_values_65 : decode cX7_values 65 = .ok (.iload 10, 2) := by decide +kernel
theorem dX7_values_67 : decode cX7_values 67 = .ok (.bipush 64, 2) := by decide +kernel
theorem dX7_values_69 : decode cX7_values 69 = .ok (.if_icmp .ge 15, 3) := by decide +kernel
theorem dX7_values_72 : decode cX7_values 72 = .ok (.lload 4, 2) := by decide +kernel
theorem dX7_values_74 : decode cX7_values 74 = .ok (.lconst 1, 1) := by decide +kernel
theorem dX7_values_75 : decode cX7_values 75 = .ok (.iload 10, 2) := by decide +kernel
theorem dX7_values_77 : decode cX7_values 77 = .ok (.lshl, 1) := by decide +kernel
theorem dX7_values_78 : decode cX7_values 78 = .ok (.lor, 1) := by decide +kernel
theorem dX7_values_79 : decode cX7_values 79 = .ok (.lstore 4, 2) := by decide +kernel
theorem dX7_values_81 : decode cX7_values 81 = .ok (.goto 15, 3) := by decide +kernel
theorem dX7_values_84 : decode cX7_values 84 = .ok (.lload 6, 2) := by decide +kernel
theorem dX7_values_86 : decode cX7_values 86 = .ok (.lconst 1, 1) := by decide +kernel
theorem dX7_values_87 : decode cX7_values 87 = .ok (.iload 10, 2) := by decide +kernel
theorem dX7_values_89 : decode cX7_values 89 = .ok (.bipush 64, 2) := by decide +kernel
theorem dX7_values_91 : decode cX7_values 91 = .ok (.isub, 1) := by decide +kernel
theorem dX7_values_92 : decode cX7_values 92 = .ok (.lshl, 1) := by decide +kernel
theorem dX7_values_93 : decode cX7_values 93 = .ok (.lor, 1) := by decide +kernel
theorem dX7_values_94 : decode cX7_values 94 = .ok (.lstore 6, 2) := by decide +kernel
theorem dX7_values_96 : decode cX7_values 96 = .ok (.iinc 8 1, 3) := by decide +kernel
theorem dX7_values_99 : decode cX7_values 99 = .ok (.goto (-80), 3) := by decide +kernel
theorem dX7_values_102 : decode cX7_values 102 = .ok (.lload 4, 2) := by decide +kernel
theorem dX7_values_104 : decode cX7_values 104 = .ok (.invokestatic 146, 3) := by decide +kernel
theorem dX7_values_107 : decode cX7_values 107 = .ok (.lload 6, 2) := by decide +kernel
theorem dX7_values_109 : decode cX7_values 109 = .ok (.invokestatic 146, 3) := by decide +kernel
theorem dX7_values_112 : decode cX7_values 112 = .ok (.iadd, 1) := by decide +kernel
theorem dX7_values_113 : decode cX7_values 113 = .ok (.ireturn, 1) := by decide +kernel
set_option maxRecDepth 20000 in
theorem ggX7_setBudget_X7_checkSource : GoodIn wsX7_setBudget wsX7_checkSource := goodIn_ca (goodIn_r _ [7, 1, 2, 8, 9, 6, 10, 11, 12, 13] (by decide +kernel) (by decide +kernel)) (goodIn_sub (fun _ h => List.mem_cons_of_mem _ (List.mem_append_left _ (List.mem_append_right _ h))) (by decide +kernel))
set_option maxRecDepth 20000 in
theorem gX7_setBudget_X7_checkSource : GoodIn wsX7_setBudget (va_wsS RX7 116 yX7_checkSource wsX7_checkSource) := goodIn_app (goodIn_of _ (by decide +kernel)) ggX7_setBudget_X7_checkSource
set_option maxRecDepth 20000 in
theorem ggX7_setBudget_X7_isWithin : GoodIn wsX7_setBudget wsX7_isWithin := goodIn_r _ [13] (by decide +kernel) (by decide +kernel)
set_option maxRecDepth 20000 in
theorem gX7_setBudget_X7_isWithin : GoodIn wsX7_setBudget (va_wsS RX7 42 yX7_isWithin wsX7_isWithin) := goodIn_app (goodIn_of _ (by decide +kernel)) ggX7_setBudget_X7_isWithin
set_option maxRecDepth 20000 in
theorem ggX7_setBudget_X7_lookAtSource : GoodIn wsX7_setBudget wsX7_lookAtSource := goodIn_ca (goodIn_r _ [17, 3, 18, 19, 20, 6, 21, 22, 23, 24, 25, 26, 27, 28, 29, 30, 31, 32, 33, 34, 35, 36, 37, 38, 39, 40, 41, 42, 43, 44, 45, 46, 47, 48, 49, 50, 51, 52, 53, 54, 55, 56, 57, 58, 59, 60, 61, 62, 63, 64, 65, 66, 67, 68] (by decide +kernel) (by decide +kernel)) (goodIn_sub (fun _ h => List.mem_cons_of_mem _ (List.mem_append_right _ h)) (by decide +kernel))
set_option maxRecDepth 20000 in
theorem gX7_setBudget_X7_lookAtSource : GoodIn wsX7_setBudget (wsV RX7 95 RX7 yX7_lookAtSource wsX7_lookAtSource) := goodIn_app (goodIn_of _ (by decide +kernel)) ggX7_setBudget_X7_lookAtSource
theorem dX7_setBudget_0 : decode cX7_setBudget 0 = .ok (.iload_n 1, 1) := by decide +kernel
theorem dX7_setBudget_1 : decode cX7_setBudget 1 = .ok (.invokestatic 116, 3) := by decide +kernel
theorem dX7_setBudget_4 : decode cX7_setBudget 4 = .ok (.iload_n 2, 1) := by decide +kernel
theorem dX7_setBudget_5 : decode cX7_setBudget 5 = .ok (.iconst 0, 1) := by decide +kernel
theorem dX7_setBudget_6 : decode cX7_setBudget 6 = .ok (.sipush 9999, 3) := by decide +kernel
theorem dX7_setBudget_9 : decode cX7_setBudget 9 = .ok (.invokestatic 42, 3) := by decide +kernel
theorem dX7_setBudget_12 : decode cX7_setBudget 12 = .ok (.ifCond .ne 13, 3) := by decide +kernel
theorem dX7_setBudget_15 : decode cX7_setBudget 15 = .ok (.new 46, 3) := by decide +kernel
theorem dX7_setBudget_18 : decode cX7_setBudget 18 = .ok (.dup, 1) := by decide +kernel
theorem dX7_setBudget_19 : decode cX7_setBudget 19 = .ok (.ldc 152, 2) := by decide +kernel
theorem dX7_setBudget_21 : decode cX7_setBudget 21 = .ok (.invokespecial 50, 3) := by decide +kernel
theorem dX7_setBudget_24 : decode cX7_setBudget 24 = .ok (.athrow, 1) := by decide +kernel
theorem dX7_setBudget_25 : decode cX7_setBudget 25 = .ok (.aload_n 0, 1) := by decide +kernel
theorem dX7_setBudget_26 : decode cX7_setBudget 26 = .ok (.getfield 28, 3) := by decide +kernel
theorem dX7_setBudget_29 : decode cX7_setBudget 29 = .ok (.iload_n 1, 1) := by decide +kernel
theorem dX7_setBudget_30 : decode cX7_setBudget 30 = .ok (.iload_n 2, 1) := by decide +kernel
theorem dX7_setBudget_31 : decode cX7_setBudget 31 = .ok (.iastore, 1) := by decide +kernel
theorem dX7_setBudget_32 : decode cX7_setBudget 32 = .ok (.aload_n 0, 1) := by decide +kernel
theorem dX7_setBudget_33 : decode cX7_setBudget 33 = .ok (.iload_n 1, 1) := by decide +kernel
theorem dX7_setBudget_34 : decode cX7_setBudget 34 = .ok (.invokevirtual 95, 3) := by decide +kernel
theorem dX7_setBudget_37 : decode cX7_setBudget 37 = .ok (.ireturn, 1) := by decide +kernel
set_option maxRecDepth 20000 in
theorem ggX7_kept_X7_checkSource : GoodIn wsX7_kept wsX7_checkSource := goodIn_ca (goodIn_r _ [4, 5, 6, 7, 8, 3, 9, 10, 11, 12] (by decide +kernel) (by decide +kernel)) (goodIn_sub (fun _ h => List.mem_cons_of_mem _ (List.mem_append_right _ h)) (by decide +kernel))
set_option maxRecDepth 20000 in
theorem gX7_kept_X7_checkSource : GoodIn wsX7_kept (va_wsS RX7 116 yX7_checkSource wsX7_checkSource) := goodIn_app (goodIn_of _ (by decide +kernel)) ggX7_kept_X7_checkSource
set_option maxRecDepth 20000 in
theorem ggX7_kept_X7_keptBytes : GoodIn wsX7_kept wsX7_keptBytes := goodIn_r _ [16, 17, 18, 19, 20, 21, 22, 23, 24, 25, 26, 27, 28, 29, 30, 31, 32, 33, 34, 35, 36, 37, 38, 39, 40, 41, 42, 43, 44, 45, 46, 47, 48, 49, 50, 51, 52, 53, 54, 55, 56, 57, 58, 59] (by decide +kernel) (by decide +kernel)
set_option maxRecDepth 20000 in
theorem gX7_kept_X7_keptBytes : GoodIn wsX7_kept (wsV RX7 154 RX7 yX7_keptBytes wsX7_keptBytes) := goodIn_app (goodIn_of _ (by decide +kernel)) ggX7_kept_X7_keptBytes
theorem dX7_kept_0 : decode cX7_kept 0 = .ok (.iload_n 1, 1) := by decide +kernel
theorem dX7_kept_1 : decode cX7_kept 1 = .ok (.invokestatic 116, 3) := by decide +kernel
theorem dX7_kept_4 : decode cX7_kept 4 = .ok (.aload_n 0, 1) := by decide +kernel
theorem dX7_kept_5 : decode cX7_kept 5 = .ok (.iload_n 1, 1) := by decide +kernel
theorem dX7_kept_6 : decode cX7_kept 6 = .ok (.invokevirtual 154, 3) := by decide +kernel
theorem dX7_kept_9 : decode cX7_kept 9 = .ok (.ireturn, 1) := by decide +kernel
set_option maxRecDepth 20000 in
theorem ggX7_dropped_X7_checkSource : GoodIn wsX7_dropped wsX7_checkSource := goodIn_ca (goodIn_r _ [6, 7, 8, 9, 10, 5, 11, 12, 13, 14] (by decide +kernel) (by decide +kernel)) (goodIn_sub (fun _ h => List.mem_cons_of_mem _ (List.mem_append_right _ h)) (by decide +kernel))
set_option maxRecDepth 20000 in
theorem gX7_dropped_X7_checkSource : GoodIn wsX7_dropped (va_wsS RX7 116 yX7_checkSource wsX7_checkSource) := goodIn_app (goodIn_of _ (by decide +kernel)) ggX7_dropped_X7_checkSource
set_option maxRecDepth 20000 in
theorem ggX7_dropped_Jx4a65c_size_8abf5 : GoodIn wsX7_dropped wsJx4a65c_size_8abf5 := goodIn_r _ [19, 20, 53, 54, 55] (by decide +kernel) (by decide +kernel)
set_option maxRecDepth 20000 in
theorem gX7_dropped_Jx4a65c_size_8abf5 : GoodIn wsX7_dropped (wsV RX7 53 RJx4a65c yJx4a65c_size_8abf5 wsJx4a65c_size_8abf5) := goodIn_app (goodIn_of _ (by decide +kernel)) ggX7_dropped_Jx4a65c_size_8abf5
set_option maxRecDepth 20000 in
theorem ggX7_dropped_Jx4a65c_get_915e3 : GoodIn wsX7_dropped wsJx4a65c_get_915e3 := goodIn_r _ [24, 20, 25, 26, 27, 28, 29, 30, 31, 32, 33, 34, 35, 18, 36, 37, 53, 54, 55] (by decide +kernel) (by decide +kernel)
set_option maxRecDepth 20000 in
theorem gX7_dropped_Jx4a65c_get_915e3 : GoodIn wsX7_dropped (wsV RX7 120 RJx4a65c yJx4a65c_get_915e3 wsJx4a65c_get_915e3) := goodIn_app (goodIn_of _ (by decide +kernel)) ggX7_dropped_Jx4a65c_get_915e3
theorem dX7_dropped_0 : decode cX7_dropped 0 = .ok (.iload_n 1, 1) := by decide +kernel
theorem dX7_dropped_1 : decode cX7_dropped 1 = .ok (.invokestatic 116, 3) := by decide +kernel
theorem dX7_dropped_4 : decode cX7_dropped 4 = .ok (.iconst 0, 1) := by decide +kernel
theorem dX7_dropped_5 : decode cX7_dropped 5 = .ok (.istore_n 2, 1) := by decide +kernel
theorem dX7_dropped_6 : decode cX7_dropped 6 = .ok (.iconst 0, 1) := by decide +kernel
theorem dX7_dropped_7 : decode cX7_dropped 7 = .ok (.istore_n 3, 1) := by decide +kernel
theorem dX7_dropped_8 : decode cX7_dropped 8 = .ok (.iload_n 3, 1) := by decide +kernel
theorem dX7_dropped_9 : decode cX7_dropped 9 = .ok (.aload_n 0, 1) := by decide +kernel
theorem dX7_dropped_10 : decode cX7_dropped 10 = .ok (.getfield 10, 3) := by decide +kernel
theorem dX7_dropped_13 : decode cX7_dropped 13 = .ok (.invokevirtual 53, 3) := by decide +kernel
theorem dX7_dropped_16 : decode cX7_dropped 16 = .ok (.if_icmp .ge 44, 3) := by decide +kernel
theorem dX7_dropped_19 : decode cX7_dropped 19 = .ok (.aload_n 0, 1) := by decide +kernel
theorem dX7_dropped_20 : decode cX7_dropped 20 = .ok (.getfield 10, 3) := by decide +kernel
theorem dX7_dropped_23 : decode cX7_dropped 23 = .ok (.iload_n 3, 1) := by decide +kernel
theorem dX7_dropped_24 : decode cX7_dropped 24 = .ok (.invokevirtual 120, 3) := by decide +kernel
theorem dX7_dropped_27 : decode cX7_dropped 27 = .ok (.checkcast 74, 3) := by decide +kernel
theorem dX7_dropped_30 : decode cX7_dropped 30 = .ok (.astore 4, 2) := by decide +kernel
theorem dX7_dropped_32 : decode cX7_dropped 32 = .ok (.aload 4, 2) := by decide +kernel
theorem dX7_dropped_34 : decode cX7_dropped 34 = .ok (.getfield 157, 3) := by decide +kernel
theorem dX7_dropped_37 : decode cX7_dropped 37 = .ok (.iload_n 1, 1) := by decide +kernel
theorem dX7_dropped_38 : decode cX7_dropped 38 = .ok (.if_icmp .ne 16, 3) := by decide +kernel
theorem dX7_dropped_41 : decode cX7_dropped 41 = .ok (.aload 4, 2) := by decide +kernel
theorem dX7_dropped_43 : decode cX7_dropped 43 = .ok (.getfield 103, 3) := by decide +kernel
theorem dX7_dropped_46 : decode cX7_dropped 46 = .ok (.bipush 100, 2) := by decide +kernel
theorem dX7_dropped_48 : decode cX7_dropped 48 = .ok (.if_icmp .ne 6, 3) := by decide +kernel
theorem dX7_dropped_51 : decode cX7_dropped 51 = .ok (.iinc 2 1, 3) := by decide +kernel
theorem dX7_dropped_54 : decode cX7_dropped 54 = .ok (.iinc 3 1, 3) := by decide +kernel
theorem dX7_dropped_57 : decode cX7_dropped 57 = .ok (.goto (-49), 3) := by decide +kernel
theorem dX7_dropped_60 : decode cX7_dropped 60 = .ok (.iload_n 2, 1) := by decide +kernel
theorem dX7_dropped_61 : decode cX7_dropped 61 = .ok (.ireturn, 1) := by decide +kernel
set_option maxRecDepth 20000 in
theorem ggX7_archive_X7_lineNumbered : GoodIn wsX7_archive wsX7_lineNumbered := goodIn_ca (goodIn_r _ [7, 8, 9, 10, 11, 12, 13, 14, 15, 16, 17, 18, 19, 20, 21, 22, 23, 24, 25, 26, 27, 28, 29, 30, 31, 32, 33, 34, 47, 48, 49, 50, 51, 52, 53, 54, 55, 56] (by decide +kernel) (by decide +kernel)) (goodIn_sub (fun _ h => List.mem_cons_of_mem _ (List.mem_append_right _ h)) (by decide +kernel))
set_option maxRecDepth 20000 in
theorem gX7_archive_X7_lineNumbered : GoodIn wsX7_archive (wsV RX7 99 RX7 yX7_lineNumbered wsX7_lineNumbered) := goodIn_app (goodIn_of _ (by decide +kernel)) ggX7_archive_X7_lineNumbered
set_option maxRecDepth 20000 in
theorem ggX7_archive_X7_keptBytes : GoodIn wsX7_archive wsX7_keptBytes := goodIn_r _ [38, 10, 11, 12, 13, 14, 15, 16, 17, 18, 19, 20, 21, 22, 23, 24, 25, 26, 27, 28, 29, 30, 31, 32, 33, 34, 47, 48, 49, 50, 51, 52, 53, 39, 40, 41, 42, 43, 44, 45, 46, 54, 55, 56] (by decide +kernel) (by decide +kernel)
set_option maxRecDepth 20000 in
theorem gX7_archive_X7_keptBytes : GoodIn wsX7_archive (wsV RX7 154 RX7 yX7_keptBytes wsX7_keptBytes) := goodIn_app (goodIn_of _ (by decide +kernel)) ggX7_archive_X7_keptBytes
theorem dX7_archive_0 : decode cX7_archive 0 = .ok (.aload_n 0, 1) := by decide +kernel
theorem dX7_archive_1 : decode cX7_archive 1 = .ok (.iload_n 1, 1) := by decide +kernel
theorem dX7_archive_2 : decode cX7_archive 2 = .ok (.invokevirtual 99, 3) := by decide +kernel
theorem dX7_archive_5 : decode cX7_archive 5 = .ok (.astore_n 2, 1) := by decide +kernel
theorem dX7_archive_6 : decode cX7_archive 6 = .ok (.aload_n 2, 1) := by decide +kernel
theorem dX7_archive_7 : decode cX7_archive 7 = .ok (.getfield 103, 3) := by decide +kernel
theorem dX7_archive_10 : decode cX7_archive 10 = .ok (.bipush 107, 2) := by decide +kernel
theorem dX7_archive_12 : decode cX7_archive 12 = .ok (.if_icmp .eq 13, 3) := by decide +kernel
theorem dX7_archive_15 : decode cX7_archive 15 = .ok (.new 57, 3) := by decide +kernel
theorem dX7_archive_18 : decode cX7_archive 18 = .ok (.dup, 1) := by decide +kernel
theorem dX7_archive_19 : decode cX7_archive 19 = .ok (.ldc 158, 2) := by decide +kernel
theorem dX7_archive_21 : decode cX7_archive 21 = .ok (.invokespecial 61, 3) := by decide +kernel
theorem dX7_archive_24 : decode cX7_archive 24 = .ok (.athrow, 1) := by decide +kernel
theorem dX7_archive_25 : decode cX7_archive 25 = .ok (.aload_n 2, 1) := by decide +kernel
theorem dX7_archive_26 : decode cX7_archive 26 = .ok (.bipush 97, 2) := by decide +kernel
theorem dX7_archive_28 : decode cX7_archive 28 = .ok (.putfield 103, 3) := by decide +kernel
theorem dX7_archive_31 : decode cX7_archive 31 = .ok (.aload_n 0, 1) := by decide +kernel
theorem dX7_archive_32 : decode cX7_archive 32 = .ok (.aload_n 2, 1) := by decide +kernel
theorem dX7_archive_33 : decode cX7_archive 33 = .ok (.getfield 157, 3) := by decide +kernel
theorem dX7_archive_36 : decode cX7_archive 36 = .ok (.invokevirtual 154, 3) := by decide +kernel
theorem dX7_archive_39 : decode cX7_archive 39 = .ok (.ireturn, 1) := by decide +kernel
set_option maxRecDepth 20000 in
theorem ggX7_request_X7_isSource : GoodIn wsX7_request wsX7_isSource := goodIn_r _ [16, 17, 18, 15, 19] (by decide +kernel) (by decide +kernel)
set_option maxRecDepth 20000 in
theorem gX7_request_X7_isSource : GoodIn wsX7_request (va_wsS RX7 32 yX7_isSource wsX7_isSource) := goodIn_app (goodIn_of _ (by decide +kernel)) ggX7_request_X7_isSource
set_option maxRecDepth 20000 in
theorem ggX7_request_X7_isRank : GoodIn wsX7_request wsX7_isRank := goodIn_r _ [22, 17, 18, 15, 19] (by decide +kernel) (by decide +kernel)
set_option maxRecDepth 20000 in
theorem gX7_request_X7_isRank : GoodIn wsX7_request (va_wsS RX7 36 yX7_isRank wsX7_isRank) := goodIn_app (goodIn_of _ (by decide +kernel)) ggX7_request_X7_isRank
set_option maxRecDepth 20000 in
theorem ggX7_request_Jx4a65c_size_8abf5 : GoodIn wsX7_request wsJx4a65c_size_8abf5 := goodIn_r _ [27, 28, 144, 145, 146] (by decide +kernel) (by decide +kernel)
set_option maxRecDepth 20000 in
theorem gX7_request_Jx4a65c_size_8abf5 : GoodIn wsX7_request (wsV RX7 53 RJx4a65c yJx4a65c_size_8abf5 wsJx4a65c_size_8abf5) := goodIn_app (goodIn_of _ (by decide +kernel)) ggX7_request_Jx4a65c_size_8abf5
set_option maxRecDepth 20000 in
theorem ggX7_request_X1_init : GoodIn wsX7_request wsX1_init := goodIn_r _ [30, 31, 32, 33, 34, 35, 36, 37, 136, 137, 138, 139] (by decide +kernel) (by decide +kernel)
set_option maxRecDepth 20000 in
theorem gX7_request_X1_init_n166 : GoodIn wsX7_request (wsX1_init) := ggX7_request_X1_init
set_option maxRecDepth 20000 in
theorem ggX7_request_X7_archivedLines : GoodIn wsX7_request wsX7_archivedLines := goodIn_r _ [41, 42, 43, 23, 24, 25, 26, 27, 28, 44, 45, 46, 47, 48, 49, 50, 51, 52, 53, 54, 55, 56, 57, 58, 59, 60, 61, 8, 62, 63, 34, 35, 36, 37, 64, 65, 66, 67, 68, 69, 70, 129, 130, 131, 132, 133, 134, 135, 147, 148, 149, 150, 151, 152, 153, 154, 144, 145, 146, 136, 137, 138, 139, 155, 156, 157] (by decide +kernel) (by decide +kernel)
set_option maxRecDepth 20000 in
theorem gX7_request_X7_archivedLines : GoodIn wsX7_request (wsV RX7 169 RX7 yX7_archivedLines wsX7_archivedLines) := goodIn_app (goodIn_of _ (by decide +kernel)) ggX7_request_X7_archivedLines
set_option maxRecDepth 20000 in
theorem ggX7_request_X5_init : GoodIn wsX7_request wsX5_init := goodIn_r _ [72, 73, 32, 33, 74, 75, 140, 141, 142, 143] (by decide +kernel) (by decide +kernel)
set_option maxRecDepth 20000 in
theorem gX7_request_X5_init_n175 : GoodIn wsX7_request (wsX5_init) := ggX7_request_X5_init
set_option maxRecDepth 20000 in
theorem ggX7_request_Jx4a65c_add_9ea2d : GoodIn wsX7_request wsJx4a65c_add_9ea2d := goodIn_r _ [79, 80, 81, 60, 28, 82, 83, 84, 26, 85, 86, 87, 88, 89, 90, 91, 92, 93, 94, 95, 96, 97, 98, 99, 100, 101, 102, 103, 104, 105, 106, 107, 108, 109, 110, 111, 112, 113, 114, 115, 116, 117, 118, 119, 120, 121, 122, 123, 124, 125, 126, 127, 128, 144, 145, 146] (by decide +kernel) (by decide +kernel)
set_option maxRecDepth 20000 in
theorem gX7_request_Jx4a65c_add_9ea2d : GoodIn wsX7_request (wsV RX7 83 RJx4a65c yJx4a65c_add_9ea2d wsJx4a65c_add_9ea2d) := goodIn_app (goodIn_of _ (by decide +kernel)) ggX7_request_Jx4a65c_add_9ea2d
theorem dX7_request_0 : decode cX7_request 0 = .ok (.iload_n 1, 1) := by decide +kernel
theorem dX7_request_1 : decode cX7_request 1 = .ok (.invokestatic 32, 3) := by decide +kernel
theorem dX7_request_4 : decode cX7_request 4 = .ok (.ifCond .eq 10, 3) := by decide +kernel
theorem dX7_request_7 : decode cX7_request 7 = .ok (.iload_n 2, 1) := by decide +kernel
theorem dX7_request_8 : decode cX7_request 8 = .ok (.invokestatic 36, 3) := by decide +kernel
theorem dX7_request_11 : decode cX7_request 11 = .ok (.ifCond .ne 13, 3) := by decide +kernel
theorem dX7_request_14 : decode cX7_request 14 = .ok (.new 46, 3) := by decide +kernel
theorem dX7_request_17 : decode cX7_request 17 = .ok (.dup, 1) := by decide +kernel
theorem dX7_request_18 : decode cX7_request 18 = .ok (.ldc 160, 2) := by decide +kernel
theorem dX7_request_20 : decode cX7_request 20 = .ok (.invokespecial 50, 3) := by decide +kernel
theorem dX7_request_23 : decode cX7_request 23 = .ok (.athrow, 1) := by decide +kernel
theorem dX7_request_24 : decode cX7_request 24 = .ok (.aload_n 0, 1) := by decide +kernel
theorem dX7_request_25 : decode cX7_request 25 = .ok (.getfield 25, 3) := by decide +kernel
theorem dX7_request_28 : decode cX7_request 28 = .ok (.invokevirtual 53, 3) := by decide +kernel
theorem dX7_request_31 : decode cX7_request 31 = .ok (.bipush 20, 2) := by decide +kernel
theorem dX7_request_33 : decode cX7_request 33 = .ok (.if_icmp .lt 13, 3) := by decide +kernel
theorem dX7_request_36 : decode cX7_request 36 = .ok (.new 57, 3) := by decide +kernel
theorem dX7_request_39 : decode cX7_request 39 = .ok (.dup, 1) := by decide +kernel
theorem dX7_request_40 : decode cX7_request 40 = .ok (.ldc 162, 2) := by decide +kernel
theorem dX7_request_42 : decode cX7_request 42 = .ok (.invokespecial 61, 3) := by decide +kernel
theorem dX7_request_45 : decode cX7_request 45 = .ok (.athrow, 1) := by decide +kernel
theorem dX7_request_46 : decode cX7_request 46 = .ok (.aload_n 0, 1) := by decide +kernel
theorem dX7_request_47 : decode cX7_request 47 = .ok (.new 164, 3) := by decide +kernel
theorem dX7_request_50 : decode cX7_request 50 = .ok (.dup, 1) := by decide +kernel
theorem dX7_request_51 : decode cX7_request 51 = .ok (.iload_n 1, 1) := by decide +kernel
theorem dX7_request_52 : decode cX7_request 52 = .ok (.iconst 0, 1) := by decide +kernel
theorem dX7_request_53 : decode cX7_request 53 = .ok (.iconst (-1), 1) := by decide +kernel
theorem dX7_request_54 : decode cX7_request 54 = .ok (.iconst 0, 1) := by decide +kernel
theorem dX7_request_55 : decode cX7_request 55 = .ok (.invokespecial 166, 3) := by decide +kernel
theorem dX7_request_58 : decode cX7_request 58 = .ok (.invokevirtual 169, 3) := by decide +kernel
theorem dX7_request_61 : decode cX7_request 61 = .ok (.istore_n 3, 1) := by decide +kernel
theorem dX7_request_62 : decode cX7_request 62 = .ok (.aload_n 0, 1) := by decide +kernel
theorem dX7_request_63 : decode cX7_request 63 = .ok (.getfield 76, 3) := by decide +kernel
theorem dX7_request_66 : decode cX7_request 66 = .ok (.iconst 2, 1) := by decide +kernel
theorem dX7_request_67 : decode cX7_request 67 = .ok (.iadd, 1) := by decide +kernel
theorem dX7_request_68 : decode cX7_request 68 = .ok (.iload_n 3, 1) := by decide +kernel
theorem dX7_request_69 : decode cX7_request 69 = .ok (.iconst 3, 1) := by decide +kernel
theorem dX7_request_70 : decode cX7_request 70 = .ok (.idiv, 1) := by decide +kernel
theorem dX7_request_71 : decode cX7_request 71 = .ok (.iadd, 1) := by decide +kernel
theorem dX7_request_72 : decode cX7_request 72 = .ok (.istore 4, 2) := by decide +kernel
theorem dX7_request_74 : decode cX7_request 74 = .ok (.aload_n 0, 1) := by decide +kernel
theorem dX7_request_75 : decode cX7_request 75 = .ok (.getfield 25, 3) := by decide +kernel
theorem dX7_request_78 : decode cX7_request 78 = .ok (.new 173, 3) := by decide +kernel
theorem dX7_request_81 : decode cX7_request 81 = .ok (.dup, 1) := by decide +kernel
theorem dX7_request_82 : decode cX7_request 82 = .ok (.new 164, 3) := by decide +kernel
theorem dX7_request_85 : decode cX7_request 85 = .ok (.dup, 1) := by decide +kernel
theorem dX7_request_86 : decode cX7_request 86 = .ok (.iload_n 1, 1) := by decide +kernel
theorem dX7_request_87 : decode cX7_request 87 = .ok (.iload_n 2, 1) := by decide +kernel
theorem dX7_request_88 : decode cX7_request 88 = .ok (.iconst (-1), 1) := by decide +kernel
theorem dX7_request_89 : decode cX7_request 89 = .ok (.iconst 0, 1) := by decide +kernel
theorem dX7_request_90 : decode cX7_request 90 = .ok (.invokespecial 166, 3) := by decide +kernel
theorem dX7_request_93 : decode cX7_request 93 = .ok (.iload 4, 2) := by decide +kernel
theorem dX7_request_95 : decode cX7_request 95 = .ok (.invokespecial 175, 3) := by decide +kernel
theorem dX7_request_98 : decode cX7_request 98 = .ok (.invokevirtual 83, 3) := by decide +kernel
theorem dX7_request_101 : decode cX7_request 101 = .ok (.pop, 1) := by decide +kernel
theorem dX7_request_102 : decode cX7_request 102 = .ok (.aload_n 0, 1) := by decide +kernel
theorem dX7_request_103 : decode cX7_request 103 = .ok (.getfield 25, 3) := by decide +kernel
theorem dX7_request_106 : decode cX7_request 106 = .ok (.invokevirtual 53, 3) := by decide +kernel
theorem dX7_request_109 : decode cX7_request 109 = .ok (.iconst 1, 1) := by decide +kernel
theorem dX7_request_110 : decode cX7_request 110 = .ok (.isub, 1) := by decide +kernel
theorem dX7_request_111 : decode cX7_request 111 = .ok (.ireturn, 1) := by decide +kernel
set_option maxRecDepth 20000 in
theorem ggX7_answer_Jx4a65c_size_8abf5 : GoodIn wsX7_answer wsJx4a65c_size_8abf5 := goodIn_r _ [11, 12, 41, 42, 43] (by decide +kernel) (by decide +kernel)
set_option maxRecDepth 20000 in
theorem gX7_answer_Jx4a65c_size_8abf5 : GoodIn wsX7_answer (wsV RX7 53 RJx4a65c yJx4a65c_size_8abf5 wsJx4a65c_size_8abf5) := goodIn_app (goodIn_of _ (by decide +kernel)) ggX7_answer_Jx4a65c_size_8abf5
set_option maxRecDepth 20000 in
theorem ggX7_answer_Jx4a65c_get_915e3 : GoodIn wsX7_answer wsJx4a65c_get_915e3 := goodIn_r _ [16, 12, 17, 18, 19, 20, 21, 22, 23, 24, 25, 26, 27, 10, 28, 29, 41, 42, 43] (by decide +kernel) (by decide +kernel)
set_option maxRecDepth 20000 in
theorem gX7_answer_Jx4a65c_get_915e3 : GoodIn wsX7_answer (wsV RX7 120 RJx4a65c yJx4a65c_get_915e3 wsJx4a65c_get_915e3) := goodIn_app (goodIn_of _ (by decide +kernel)) ggX7_answer_Jx4a65c_get_915e3
theorem dX7_answer_0 : decode cX7_answer 0 = .ok (.iload_n 1, 1) := by decide +kernel
theorem dX7_answer_1 : decode cX7_answer 1 = .ok (.ifCond .lt 14, 3) := by decide +kernel
theorem dX7_answer_4 : decode cX7_answer 4 = .ok (.iload_n 1, 1) := by decide +kernel
theorem dX7_answer_5 : decode cX7_answer 5 = .ok (.aload_n 0, 1) := by decide +kernel
theorem dX7_answer_6 : decode cX7_answer 6 = .ok (.getfield 25, 3) := by decide +kernel
theorem dX7_answer_9 : decode cX7_answer 9 = .ok (.invokevirtual 53, 3) := by decide +kernel
theorem dX7_answer_12 : decode cX7_answer 12 = .ok (.if_icmp .lt 13, 3) := by decide +kernel
theorem dX7_answer_15 : decode cX7_answer 15 = .ok (.new 178, 3) := by decide +kernel
theorem dX7_answer_18 : decode cX7_answer 18 = .ok (.dup, 1) := by decide +kernel
theorem dX7_answer_19 : decode cX7_answer 19 = .ok (.ldc 180, 2) := by decide +kernel
theorem dX7_answer_21 : decode cX7_answer 21 = .ok (.invokespecial 182, 3) := by decide +kernel
theorem dX7_answer_24 : decode cX7_answer 24 = .ok (.athrow, 1) := by decide +kernel
theorem dX7_answer_25 : decode cX7_answer 25 = .ok (.aload_n 0, 1) := by decide +kernel
theorem dX7_answer_26 : decode cX7_answer 26 = .ok (.getfield 25, 3) := by decide +kernel
theorem dX7_answer_29 : decode cX7_answer 29 = .ok (.iload_n 1, 1) := by decide +kernel
theorem dX7_answer_30 : decode cX7_answer 30 = .ok (.invokevirtual 120, 3) := by decide +kernel
theorem dX7_answer_33 : decode cX7_answer 33 = .ok (.checkcast 173, 3) := by decide +kernel
theorem dX7_answer_36 : decode cX7_answer 36 = .ok (.astore_n 2, 1) := by decide +kernel
theorem dX7_answer_37 : decode cX7_answer 37 = .ok (.aload_n 2, 1) := by decide +kernel
theorem dX7_answer_38 : decode cX7_answer 38 = .ok (.getfield 183, 3) := by decide +kernel
theorem dX7_answer_41 : decode cX7_answer 41 = .ok (.ifCond .ne 13, 3) := by decide +kernel
theorem dX7_answer_44 : decode cX7_answer 44 = .ok (.new 57, 3) := by decide +kernel
theorem dX7_answer_47 : decode cX7_answer 47 = .ok (.dup, 1) := by decide +kernel
theorem dX7_answer_48 : decode cX7_answer 48 = .ok (.ldc 186, 2) := by decide +kernel
theorem dX7_answer_50 : decode cX7_answer 50 = .ok (.invokespecial 61, 3) := by decide +kernel
theorem dX7_answer_53 : decode cX7_answer 53 = .ok (.athrow, 1) := by decide +kernel
theorem dX7_answer_54 : decode cX7_answer 54 = .ok (.aload_n 2, 1) := by decide +kernel
theorem dX7_answer_55 : decode cX7_answer 55 = .ok (.getfield 188, 3) := by decide +kernel
theorem dX7_answer_58 : decode cX7_answer 58 = .ok (.ireturn, 1) := by decide +kernel
set_option maxRecDepth 20000 in
theorem ggX7_addAlert_X7_isSource : GoodIn wsX7_addAlert wsX7_isSource := goodIn_r _ [17, 18, 19, 16, 20] (by decide +kernel) (by decide +kernel)
set_option maxRecDepth 20000 in
theorem gX7_addAlert_X7_isSource : GoodIn wsX7_addAlert (va_wsS RX7 32 yX7_isSource wsX7_isSource) := goodIn_app (goodIn_of _ (by decide +kernel)) ggX7_addAlert_X7_isSource
set_option maxRecDepth 20000 in
theorem ggX7_addAlert_X7_isRank : GoodIn wsX7_addAlert wsX7_isRank := goodIn_r _ [23, 18, 19, 16, 20] (by decide +kernel) (by decide +kernel)
set_option maxRecDepth 20000 in
theorem gX7_addAlert_X7_isRank : GoodIn wsX7_addAlert (va_wsS RX7 36 yX7_isRank wsX7_isRank) := goodIn_app (goodIn_of _ (by decide +kernel)) ggX7_addAlert_X7_isRank
set_option maxRecDepth 20000 in
theorem ggX7_addAlert_X7_isWithin : GoodIn wsX7_addAlert wsX7_isWithin := goodIn_r _ [20] (by decide +kernel) (by decide +kernel)
set_option maxRecDepth 20000 in
theorem gX7_addAlert_X7_isWithin : GoodIn wsX7_addAlert (va_wsS RX7 42 yX7_isWithin wsX7_isWithin) := goodIn_app (goodIn_of _ (by decide +kernel)) ggX7_addAlert_X7_isWithin
set_option maxRecDepth 20000 in
theorem ggX7_addAlert_X7_isWord : GoodIn wsX7_addAlert wsX7_isWord := goodIn_r _ [26, 18, 19, 16, 20] (by decide +kernel) (by decide +kernel)
set_option maxRecDepth 20000 in
theorem gX7_addAlert_X7_isWord : GoodIn wsX7_addAlert (va_wsS RX7 39 yX7_isWord wsX7_isWord) := goodIn_app (goodIn_of _ (by decide +kernel)) ggX7_addAlert_X7_isWord
set_option maxRecDepth 20000 in
theorem ggX7_addAlert_Jx4a65c_size_8abf5 : GoodIn wsX7_addAlert wsJx4a65c_size_8abf5 := goodIn_r _ [31, 32, 191, 192, 193] (by decide +kernel) (by decide +kernel)
set_option maxRecDepth 20000 in
theorem gX7_addAlert_Jx4a65c_size_8abf5 : GoodIn wsX7_addAlert (wsV RX7 53 RJx4a65c yJx4a65c_size_8abf5 wsJx4a65c_size_8abf5) := goodIn_app (goodIn_of _ (by decide +kernel)) ggX7_addAlert_Jx4a65c_size_8abf5
set_option maxRecDepth 20000 in
theorem ggX7_addAlert_X1_init : GoodIn wsX7_addAlert wsX1_init := goodIn_r _ [34, 35, 36, 37, 38, 39, 40, 41, 187, 188, 189, 190] (by decide +kernel) (by decide +kernel)
set_option maxRecDepth 20000 in
theorem gX7_addAlert_X1_init_n166 : GoodIn wsX7_addAlert (wsX1_init) := ggX7_addAlert_X1_init
set_option maxRecDepth 20000 in
theorem ggX7_addAlert_X0_init : GoodIn wsX7_addAlert wsX0_init := goodIn_r _ [43, 44, 36, 37, 45, 46, 47, 48, 49, 50, 178, 179, 180, 181, 182, 183, 184, 185, 186] (by decide +kernel) (by decide +kernel)
set_option maxRecDepth 20000 in
theorem gX7_addAlert_X0_init_n197 : GoodIn wsX7_addAlert (wsX0_init) := ggX7_addAlert_X0_init
set_option maxRecDepth 20000 in
theorem ggX7_addAlert_Jx4a65c_add_9ea2d : GoodIn wsX7_addAlert wsJx4a65c_add_9ea2d := goodIn_r _ [54, 55, 56, 57, 32, 58, 59, 60, 30, 61, 62, 63, 64, 65, 66, 67, 68, 69, 70, 71, 72, 73, 74, 75, 76, 77, 78, 79, 80, 81, 82, 83, 84, 85, 86, 87, 88, 89, 90, 91, 92, 93, 94, 95, 96, 97, 98, 99, 100, 101, 102, 103, 104, 191, 192, 193] (by decide +kernel) (by decide +kernel)
set_option maxRecDepth 20000 in
theorem gX7_addAlert_Jx4a65c_add_9ea2d : GoodIn wsX7_addAlert (wsV RX7 83 RJx4a65c yJx4a65c_add_9ea2d wsJx4a65c_add_9ea2d) := goodIn_app (goodIn_of _ (by decide +kernel)) ggX7_addAlert_Jx4a65c_add_9ea2d
set_option maxRecDepth 20000 in
theorem ggX7_addAlert_Jx4a65c_get_915e3 : GoodIn wsX7_addAlert wsJx4a65c_get_915e3 := goodIn_r _ [108, 32, 109, 110, 111, 112, 113, 114, 115, 116, 117, 118, 119, 30, 120, 57, 191, 192, 193] (by decide +kernel) (by decide +kernel)
set_option maxRecDepth 20000 in
theorem gX7_addAlert_Jx4a65c_get_915e3 : GoodIn wsX7_addAlert (wsV RX7 120 RJx4a65c yJx4a65c_get_915e3 wsJx4a65c_get_915e3) := goodIn_app (goodIn_of _ (by decide +kernel)) ggX7_addAlert_Jx4a65c_get_915e3
set_option maxRecDepth 20000 in
theorem ggX7_addAlert_X7_countIfDue : GoodIn wsX7_addAlert wsX7_countIfDue := goodIn_r _ [124, 125, 126, 8, 127, 128, 49, 47, 129, 130, 131, 132, 133, 134, 11, 135, 136, 38, 39, 40, 41, 137, 138, 139, 140, 141, 142, 143, 171, 172, 173, 174, 175, 176, 177, 178, 179, 180, 181, 182, 183, 184, 185, 186, 194, 195, 196, 197, 198, 199, 200, 201, 187, 188, 189, 190, 202, 203, 204] (by decide +kernel) (by decide +kernel)
set_option maxRecDepth 20000 in
theorem gX7_addAlert_X7_countIfDue : GoodIn wsX7_addAlert (wsV RX7 200 RX7 yX7_countIfDue wsX7_countIfDue) := goodIn_app (goodIn_of _ (by decide +kernel)) ggX7_addAlert_X7_countIfDue
set_option maxRecDepth 20000 in
theorem ggX7_addAlert_X7_lookAtAlert : GoodIn wsX7_addAlert wsX7_lookAtAlert := goodIn_ca (goodIn_r _ [147, 148, 149, 150, 125, 151, 152, 153, 154, 36, 37, 155, 156, 157, 158, 51, 52, 53, 30, 54, 55, 56, 57, 32, 58, 59, 60, 61, 62, 63, 64, 65, 66, 67, 68, 69, 70, 71, 72, 73, 74, 75, 76, 77, 78, 79, 80, 81, 82, 83, 84, 85, 86, 87, 88, 89, 90, 91, 92, 93, 94, 95, 96, 97, 98, 99, 100, 101, 102, 103, 104, 159, 160, 161, 16, 162, 12, 13, 27, 28, 29, 31, 105, 106, 107, 108, 109, 110, 111, 112, 113, 114, 115, 116, 117, 118, 119, 120, 129, 130, 131, 132, 133, 126, 8, 127, 128, 49, 47, 134, 11, 135, 136, 38, 39, 40, 41, 137, 138, 139, 140, 141, 142, 143, 163, 164, 165, 166, 167, 168, 169, 170, 178, 179, 180, 181, 182, 183, 184, 185, 186, 205, 206, 207, 208, 209, 171, 172, 173, 174, 175, 176, 177, 191, 192, 193, 194, 195, 196, 197, 198, 199, 200, 201, 187, 188, 189, 190, 202, 203, 204] (by decide +kernel) (by decide +kernel)) (goodIn_sub (fun _ h => List.mem_cons_of_mem _ (List.mem_append_right _ h)) (by decide +kernel))
set_option maxRecDepth 20000 in
theorem gX7_addAlert_X7_lookAtAlert : GoodIn wsX7_addAlert (wsV RX7 204 RX7 yX7_lookAtAlert wsX7_lookAtAlert) := goodIn_app (goodIn_of _ (by decide +kernel)) ggX7_addAlert_X7_lookAtAlert
theorem dX7_addAlert_0 : decode cX7_addAlert 0 = .ok (.iload_n 1, 1) := by decide +kernel
theorem dX7_addAlert_1 : decode cX7_addAlert 1 = .ok (.invokestatic 32, 3) := by decide +kernel
theorem dX7_addAlert_4 : decode cX7_addAlert 4 = .ok (.ifCond .eq 60, 3) := by decide +kernel
theorem dX7_addAlert_7 : decode cX7_addAlert 7 = .ok (.iload_n 2, 1) := by decide +kernel
theorem dX7_addAlert_8 : decode cX7_addAlert 8 = .ok (.invokestatic 36, 3) := by decide +kernel
theorem dX7_addAlert_11 : decode cX7_addAlert 11 = .ok (.ifCond .eq 53, 3) := by decide +kernel
theorem dX7_addAlert_14 : decode cX7_addAlert 14 = .ok (.iload_n 3, 1) := by decide +kernel
theorem dX7_addAlert_15 : decode cX7_addAlert 15 = .ok (.iconst (-1), 1) := by decide +kernel
theorem dX7_addAlert_16 : decode cX7_addAlert 16 = .ok (.iconst 2, 1) := by decide +kernel
theorem dX7_addAlert_17 : decode cX7_addAlert 17 = .ok (.invokestatic 42, 3) := by decide +kernel
theorem dX7_addAlert_20 : decode cX7_addAlert 20 = .ok (.ifCond .eq 44, 3) := by decide +kernel
theorem dX7_addAlert_23 : decode cX7_addAlert 23 = .ok (.iload 4, 2) := by decide +kernel
theorem dX7_addAlert_25 : decode cX7_addAlert 25 = .ok (.invokestatic 39, 3) := by decide +kernel
theorem dX7_addAlert_28 : decode cX7_addAlert 28 = .ok (.ifCond .eq 36, 3) := by decide +kernel
theorem dX7_addAlert_31 : decode cX7_addAlert 31 = .ok (.iload 5, 2) := by decide +kernel
theorem dX7_addAlert_33 : decode cX7_addAlert 33 = .ok (.iconst 1, 1) := by decide +kernel
theorem dX7_addAlert_34 : decode cX7_addAlert 34 = .ok (.bipush 9, 2) := by decide +kernel
theorem dX7_addAlert_36 : decode cX7_addAlert 36 = .ok (.invokestatic 42, 3) := by decide +kernel
theorem dX7_addAlert_39 : decode cX7_addAlert 39 = .ok (.ifCond .eq 25, 3) := by decide +kernel
theorem dX7_addAlert_42 : decode cX7_addAlert 42 = .ok (.iload 6, 2) := by decide +kernel
theorem dX7_addAlert_44 : decode cX7_addAlert 44 = .ok (.iconst 1, 1) := by decide +kernel
theorem dX7_addAlert_45 : decode cX7_addAlert 45 = .ok (.bipush 50, 2) := by decide +kernel
theorem dX7_addAlert_47 : decode cX7_addAlert 47 = .ok (.invokestatic 42, 3) := by decide +kernel
theorem dX7_addAlert_50 : decode cX7_addAlert 50 = .ok (.ifCond .eq 14, 3) := by decide +kernel
theorem dX7_addAlert_53 : decode cX7_addAlert 53 = .ok (.iload 7, 2) := by decide +kernel
theorem dX7_addAlert_55 : decode cX7_addAlert 55 = .ok (.iconst 0, 1) := by decide +kernel
theorem dX7_addAlert_56 : decode cX7_addAlert 56 = .ok (.bipush 20, 2) := by decide +kernel
theorem dX7_addAlert_58 : decode cX7_addAlert 58 = .ok (.invokestatic 42, 3) := by decide +kernel
theorem dX7_addAlert_61 : decode cX7_addAlert 61 = .ok (.ifCond .ne 13, 3) := by decide +kernel
theorem dX7_addAlert_64 : decode cX7_addAlert 64 = .ok (.new 46, 3) := by decide +kernel
theorem dX7_addAlert_67 : decode cX7_addAlert 67 = .ok (.dup, 1) := by decide +kernel
theorem dX7_addAlert_68 : decode cX7_addAlert 68 = .ok (.ldc 191, 2) := by decide +kernel
theorem dX7_addAlert_70 : decode cX7_addAlert 70 = .ok (.invokespecial 50, 3) := by decide +kernel
theorem dX7_addAlert_73 : decode cX7_addAlert 73 = .ok (.athrow, 1) := by decide +kernel
theorem dX7_addAlert_74 : decode cX7_addAlert 74 = .ok (.aload_n 0, 1) := by decide +kernel
theorem dX7_addAlert_75 : decode cX7_addAlert 75 = .ok (.getfield 19, 3) := by decide +kernel
theorem dX7_addAlert_78 : decode cX7_addAlert 78 = .ok (.invokevirtual 53, 3) := by decide +kernel
theorem dX7_addAlert_81 : decode cX7_addAlert 81 = .ok (.bipush 6, 2) := by decide +kernel
theorem dX7_addAlert_83 : decode cX7_addAlert 83 = .ok (.if_icmp .lt 13, 3) := by decide +kernel
theorem dX7_addAlert_86 : decode cX7_addAlert 86 = .ok (.new 57, 3) := by decide +kernel
theorem dX7_addAlert_89 : decode cX7_addAlert 89 = .ok (.dup, 1) := by decide +kernel
