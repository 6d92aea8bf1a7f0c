abbrev cL_law : ByteArray := code
def yL_law : MethodName := ⟨RL, "law", "([I)Z"⟩
def wsL_law0_r1 : List Cond := [Cond.classLink RL 8 RX4, Cond.instantiable RX4 7, Cond.initialized RX4, Cond.classLink RL 83 RX5, Cond.instantiable RX5 30, Cond.initialized RX5, Cond.arrayClass .long, Cond.methodLink RL 82 yX4_init, Cond.instanceMethod yX4_init, Cond.code yX4_init cX4_init 1 none, Cond.methodLink RX4 1 objectInit, Cond.instanceMethod objectInit, Cond.code objectInit ⟨#[0xb1]⟩ 1 none, Cond.classLink RX4 7 RX2, Cond.instantiable RX2 14, Cond.initialized RX2, Cond.fieldLink RX4 10 "TermLoom" "types" "LTermLoom$TypeTable;", Cond.classLink RX4 16 RX1, Cond.instantiable RX1 8, Cond.initialized RX1, Cond.fieldLink RX4 19 "TermLoom" "terms" "LTermLoom$TermStore;", Cond.classLink RX4 23 RX0, Cond.instantiable RX0 7, Cond.initialized RX0]
def wsL_law0_r2 : List Cond := [Cond.fieldLink RX4 26 "TermLoom" "bindings" "LTermLoom$Bindings;", Cond.arrayClass .int, Cond.fieldLink RX4 30 "TermLoom" "takes" "[I", Cond.fieldLink RX4 34 "TermLoom" "declared" "[I", Cond.fieldLink RX4 37 "TermLoom" "constructors" "I", Cond.fieldLink RX4 41 "TermLoom" "constants" "I", Cond.methodLink RX4 9 yX2_init, Cond.instanceMethod yX2_init, Cond.code yX2_init cX2_init 1 none, Cond.methodLink RX2 3 objectInit, Cond.fieldLink RX2 9 "TermLoom$TypeTable" "heads" "[I", Cond.fieldLink RX2 15 "TermLoom$TypeTable" "firsts" "[I", Cond.fieldLink RX2 18 "TermLoom$TypeTable" "seconds" "[I", Cond.fieldLink RX2 21 "TermLoom$TypeTable" "symbols" "[I", Cond.fieldLink RX2 24 "TermLoom$TypeTable" "heights" "[I", Cond.fieldLink RX2 27 "TermLoom$TypeTable" "older" "[I", Cond.fieldLink RX2 30 "TermLoom$TypeTable" "buckets" "[I", Cond.fieldLink RX2 33 "TermLoom$TypeTable" "images" "[I", Cond.fieldLink RX2 36 "TermLoom$TypeTable" "stamps" "[I", Cond.fieldLink RX2 39 "TermLoom$TypeTable" "handles" "[I", Cond.methodLink RX2 42 yJ7_fill_53178, Cond.static yJ7_fill_53178, Cond.initialized RJ7, Cond.code yJ7_fill_53178 cJ7_fill_53178 4 none]
def wsL_law0_r3 : List Cond := [Cond.instanceMethod yX1_init, Cond.code yX1_init cX1_init 1 none, Cond.methodLink RX1 3 objectInit, Cond.fieldLink RX1 9 "TermLoom$TermStore" "codes" "[I", Cond.fieldLink RX1 15 "TermLoom$TermStore" "symbolTypes" "[I", Cond.fieldLink RX1 18 "TermLoom$TermStore" "starts" "[I", Cond.fieldLink RX1 21 "TermLoom$TermStore" "heights" "[I", Cond.classLink RX1 24 RX3, Cond.instantiable RX3 6, Cond.initialized RX3, Cond.fieldLink RX1 27 "TermLoom$TermStore" "walk" "LTermLoom$Walk;", Cond.instanceMethod yX3_init, Cond.code yX3_init cX3_init 1 none, Cond.methodLink RX3 3 objectInit, Cond.fieldLink RX3 9 "TermLoom$Walk" "depths" "[I", Cond.fieldLink RX3 15 "TermLoom$Walk" "binders" "[I", Cond.methodLink RX4 25 yX0_init, Cond.instanceMethod yX0_init, Cond.code yX0_init cX0_init 1 none, Cond.methodLink RX0 3 objectInit, Cond.fieldLink RX0 9 "TermLoom$Bindings" "codes" "[I", Cond.fieldLink RX0 15 "TermLoom$Bindings" "variableTypes" "[I", Cond.fieldLink RX0 18 "TermLoom$Bindings" "froms" "[I", Cond.fieldLink RX0 21 "TermLoom$Bindings" "ends" "[I"]
def wsL_law0_r4 : List Cond := [Cond.fieldLink RX0 24 "TermLoom$Bindings" "older" "[I", Cond.fieldLink RX0 27 "TermLoom$Bindings" "newest" "[I", Cond.methodLink RX0 30 yJ7_fill_53178, Cond.methodLink RL 85 yX5_init, Cond.instanceMethod yX5_init, Cond.code yX5_init cX5_init 2 none, Cond.methodLink RX5 1 objectInit, Cond.fieldLink RX5 7 "TermLoomModel" "constructors" "I", Cond.fieldLink RX5 13 "TermLoomModel" "takes" "[I", Cond.fieldLink RX5 17 "TermLoomModel" "declared" "[I", Cond.fieldLink RX5 20 "TermLoomModel" "head" "[I", Cond.fieldLink RX5 23 "TermLoomModel" "left" "[I", Cond.fieldLink RX5 26 "TermLoomModel" "right" "[I", Cond.fieldLink RX5 29 "TermLoomModel" "wide" "[I", Cond.fieldLink RX5 32 "TermLoomModel" "high" "[I", Cond.fieldLink RX5 35 "TermLoomModel" "behind" "[I", Cond.fieldLink RX5 38 "TermLoomModel" "chain" "[I", Cond.fieldLink RX5 41 "TermLoomModel" "typeAt" "[I", Cond.fieldLink RX5 44 "TermLoomModel" "image" "[I", Cond.arrayClass .boolean, Cond.fieldLink RX5 47 "TermLoomModel" "used" "[Z", Cond.fieldLink RX5 51 "TermLoomModel" "begin" "[I", Cond.constant RX5 54 (34100), Cond.fieldLink RX5 55 "TermLoomModel" "symbol" "[I"]
def wsL_law0_r5 : List Cond := [Cond.fieldLink RX5 58 "TermLoomModel" "type" "[I", Cond.fieldLink RX5 61 "TermLoomModel" "one" "[I", Cond.fieldLink RX5 64 "TermLoomModel" "two" "[I", Cond.fieldLink RX5 67 "TermLoomModel" "ends" "[I", Cond.fieldLink RX5 70 "TermLoomModel" "becomes" "[I", Cond.fieldLink RX5 73 "TermLoomModel" "found" "I", Cond.fieldLink RX5 76 "TermLoomModel" "variableAt" "[I", Cond.fieldLink RX5 79 "TermLoomModel" "partAt" "[I", Cond.fieldLink RX5 82 "TermLoomModel" "partLength" "[I", Cond.methodLink RL 86 yL_constructor, Cond.static yL_constructor, Cond.initialized RL, Cond.codeWith yL_constructor cL_constructor 4 (some .int) [(0, 9, 12, 13), (0, 9, 15, 15)], Cond.classLink RL 13 "java/lang/IllegalArgumentException", Cond.classLink RL 15 "java/lang/IllegalStateException", Cond.methodLink RL 7 yX4_constructor, Cond.instanceMethod yX4_constructor, Cond.selects RX4 yX4_constructor yX4_constructor, Cond.code yX4_constructor cX4_constructor 2 (some .int), Cond.classLink RX4 44 "java/lang/IllegalArgumentException", Cond.initialized "java/lang/IllegalArgumentException", Cond.classLink RX4 51 "java/lang/IllegalStateException", Cond.initialized "java/lang/IllegalStateException", Cond.methodLink RL 91 yX5_constructor]
def wsL_law0_r6 : List Cond := [Cond.instanceMethod yX5_constructor, Cond.selects RX5 yX5_constructor yX5_constructor, Cond.code yX5_constructor cX5_constructor 2 (some .int), Cond.fieldLink RX5 85 "TermLoomModel" "code" "I", Cond.methodLink RX5 88 yX5_outside, Cond.static yX5_outside, Cond.code yX5_outside cX5_outside 2 (some .boolean), Cond.methodLink RL 92 yX5_thrown, Cond.instanceMethod yX5_thrown, Cond.selects RX5 yX5_thrown yX5_thrown, Cond.code yX5_thrown cX5_thrown 1 (some .int), Cond.methodLink RL 96 yL_typeVariable, Cond.static yL_typeVariable, Cond.codeWith yL_typeVariable cL_typeVariable 4 (some .int) [(0, 9, 12, 13), (0, 9, 15, 15)], Cond.methodLink RL 17 yX4_typeVariable, Cond.instanceMethod yX4_typeVariable, Cond.selects RX4 yX4_typeVariable yX4_typeVariable, Cond.code yX4_typeVariable cX4_typeVariable 3 (some .int), Cond.methodLink RX4 56 yX4_requireNumber, Cond.static yX4_requireNumber, Cond.code yX4_requireNumber cX4_requireNumber 1 none, Cond.methodLink RX4 60 yX2_count, Cond.instanceMethod yX2_count, Cond.selects RX2 yX2_count yX2_count]
def wsL_law0_r7 : List Cond := [Cond.code yX2_count cX2_count 1 (some .int), Cond.fieldLink RX2 48 "TermLoom$TypeTable" "count" "I", Cond.methodLink RX4 64 yX4_headOfVariable, Cond.static yX4_headOfVariable, Cond.code yX4_headOfVariable cX4_headOfVariable 1 (some .int), Cond.methodLink RX4 68 yX2_made, Cond.instanceMethod yX2_made, Cond.selects RX2 yX2_made yX2_made, Cond.code yX2_made cX2_made 8 (some .int), Cond.methodLink RX2 81 Lib.Math.max.name, Cond.static Lib.Math.max.name, Cond.initialized "java/lang/Math", Cond.code Lib.Math.max.name Lib.Math.max.code 2 (some .int), Cond.methodLink RX2 62 yX2_symbols, Cond.instanceMethod yX2_symbols, Cond.selects RX2 yX2_symbols yX2_symbols, Cond.code yX2_symbols cX2_symbols 2 (some .int), Cond.static yX4_read, Cond.code yX4_read cX4_read 2 (some .int), Cond.methodLink RX2 78 yX2_height, Cond.instanceMethod yX2_height, Cond.selects RX2 yX2_height yX2_height, Cond.code yX2_height cX2_height 2 (some .int), Cond.methodLink RX2 87 yX2_find]
def wsL_law0_r8 : List Cond := [Cond.instanceMethod yX2_find, Cond.selects RX2 yX2_find yX2_find, Cond.code yX2_find cX2_find 6 (some .int), Cond.methodLink RX2 74 yX2_bucketOf, Cond.static yX2_bucketOf, Cond.code yX2_bucketOf cX2_bucketOf 4 (some .int), Cond.methodLink RX4 72 yX2_keep, Cond.instanceMethod yX2_keep, Cond.selects RX2 yX2_keep yX2_keep, Cond.code yX2_keep cX2_keep 2 (some .int), Cond.fieldLink RX2 56 "TermLoom$TypeTable" "handleCount" "I", Cond.fieldLink RX2 59 "TermLoom$TypeTable" "symbolsTogether" "I", Cond.methodLink RX4 75 yX4_settled, Cond.instanceMethod yX4_settled, Cond.selects RX4 yX4_settled yX4_settled, Cond.code yX4_settled cX4_settled 3 (some .int), Cond.methodLink RX4 242 yX2_forgetFrom, Cond.instanceMethod yX2_forgetFrom, Cond.selects RX2 yX2_forgetFrom yX2_forgetFrom, Cond.code yX2_forgetFrom cX2_forgetFrom 4 none, Cond.methodLink RX2 90 Lib.Math.min.name, Cond.static Lib.Math.min.name, Cond.code Lib.Math.min.name Lib.Math.min.code 2 (some .int), Cond.methodLink RL 98 yX5_typeVariable]
def wsL_law0_r9 : List Cond := [Cond.instanceMethod yX5_typeVariable, Cond.selects RX5 yX5_typeVariable yX5_typeVariable, Cond.code yX5_typeVariable cX5_typeVariable 4 (some .int), Cond.fieldLink RX5 96 "TermLoomModel" "nodes" "I", Cond.methodLink RX5 113 yX5_node, Cond.instanceMethod yX5_node, Cond.selects RX5 yX5_node yX5_node, Cond.code yX5_node cX5_node 7 (some .int), Cond.methodLink RX5 92 yX5_chainOf, Cond.static yX5_chainOf, Cond.code yX5_chainOf cX5_chainOf 3 (some .int), Cond.methodLink RX5 116 yX5_keepType, Cond.instanceMethod yX5_keepType, Cond.selects RX5 yX5_keepType yX5_keepType, Cond.code yX5_keepType cX5_keepType 3 (some .int), Cond.fieldLink RX5 103 "TermLoomModel" "typeSymbols" "I", Cond.fieldLink RX5 110 "TermLoomModel" "types" "I", Cond.methodLink RX5 99 yX5_isSmall, Cond.instanceMethod yX5_isSmall, Cond.selects RX5 yX5_isSmall yX5_isSmall, Cond.code yX5_isSmall cX5_isSmall 2 (some .boolean), Cond.methodLink RX5 106 yX5_fail, Cond.instanceMethod yX5_fail, Cond.selects RX5 yX5_fail yX5_fail]
def wsL_law0_r10 : List Cond := [Cond.code yX5_fail cX5_fail 2 (some .int), Cond.methodLink RX5 120 yX5_cut, Cond.instanceMethod yX5_cut, Cond.selects RX5 yX5_cut yX5_cut, Cond.code yX5_cut cX5_cut 2 none, Cond.methodLink RL 99 yL_type, Cond.static yL_type, Cond.codeWith yL_type cL_type 6 (some .int) [(0, 12, 15, 13), (0, 12, 19, 24), (0, 12, 23, 15)], Cond.classLink RL 24 "java/lang/IndexOutOfBoundsException", Cond.methodLink RL 20 yX4_type, Cond.instanceMethod yX4_type, Cond.selects RX4 yX4_type yX4_type, Cond.code yX4_type cX4_type 8 (some .int), Cond.methodLink RX4 81 yX4_read, Cond.methodLink RX4 85 yX4_typeBehind, Cond.instanceMethod yX4_typeBehind, Cond.selects RX4 yX4_typeBehind yX4_typeBehind, Cond.code yX4_typeBehind cX4_typeBehind 3 (some .int), Cond.classLink RX4 91 "java/lang/IndexOutOfBoundsException", Cond.initialized "java/lang/IndexOutOfBoundsException", Cond.methodLink RX4 247 yX2_behind, Cond.instanceMethod yX2_behind, Cond.selects RX2 yX2_behind yX2_behind, Cond.code yX2_behind cX2_behind 2 (some .int)]
def wsL_law0_r11 : List Cond := [Cond.methodLink RL 102 yX5_type, Cond.instanceMethod yX5_type, Cond.selects RX5 yX5_type yX5_type, Cond.code yX5_type cX5_type 6 (some .int), Cond.methodLink RL 103 yL_typeSymbol, Cond.static yL_typeSymbol, Cond.codeWith yL_typeSymbol cL_typeSymbol 5 (some .int) [(0, 10, 13, 24)], Cond.methodLink RL 26 yX4_typeSymbol, Cond.instanceMethod yX4_typeSymbol, Cond.selects RX4 yX4_typeSymbol yX4_typeSymbol, Cond.code yX4_typeSymbol cX4_typeSymbol 4 (some .int), Cond.methodLink RX4 88 yX2_symbols, Cond.methodLink RX4 96 yX2_headAt, Cond.instanceMethod yX2_headAt, Cond.selects RX2 yX2_headAt yX2_headAt, Cond.code yX2_headAt cX2_headAt 8 (some .int), Cond.methodLink RX2 65 yX2_first, Cond.instanceMethod yX2_first, Cond.selects RX2 yX2_first yX2_first, Cond.code yX2_first cX2_first 2 (some .int), Cond.methodLink RX2 68 yX2_second, Cond.instanceMethod yX2_second, Cond.selects RX2 yX2_second yX2_second, Cond.code yX2_second cX2_second 2 (some .int)]
def wsL_law0_r12 : List Cond := [Cond.methodLink RX2 71 yX2_head, Cond.instanceMethod yX2_head, Cond.selects RX2 yX2_head yX2_head, Cond.code yX2_head cX2_head 2 (some .int), Cond.methodLink RL 106 yX5_typeSymbol, Cond.instanceMethod yX5_typeSymbol, Cond.selects RX5 yX5_typeSymbol yX5_typeSymbol, Cond.code yX5_typeSymbol cX5_typeSymbol 6 (some .int), Cond.methodLink RL 107 yL_declare, Cond.static yL_declare, Cond.codeWith yL_declare cL_declare 4 (some .int) [(0, 9, 12, 24), (0, 9, 15, 15)], Cond.methodLink RL 30 yX4_declare, Cond.instanceMethod yX4_declare, Cond.selects RX4 yX4_declare yX4_declare, Cond.code yX4_declare cX4_declare 3 (some .int), Cond.methodLink RL 109 yX5_declare, Cond.instanceMethod yX5_declare, Cond.selects RX5 yX5_declare yX5_declare, Cond.code yX5_declare cX5_declare 2 (some .int), Cond.fieldLink RX5 124 "TermLoomModel" "constants" "I", Cond.methodLink RL 110 yL_free, Cond.static yL_free, Cond.codeWith yL_free cL_free 5 (some .int) [(0, 10, 13, 24), (0, 10, 17, 13), (0, 10, 21, 15)], Cond.methodLink RL 33 yX4_free]
def wsL_law0_r13 : List Cond := [Cond.instanceMethod yX4_free, Cond.selects RX4 yX4_free yX4_free, Cond.code yX4_free cX4_free 4 (some .int), Cond.methodLink RX4 101 yX4_codeOf, Cond.static yX4_codeOf, Cond.code yX4_codeOf cX4_codeOf 2 (some .int), Cond.methodLink RX4 104 yX4_leaf, Cond.instanceMethod yX4_leaf, Cond.selects RX4 yX4_leaf yX4_leaf, Cond.code yX4_leaf cX4_leaf 3 (some .int), Cond.methodLink RX4 132 yX1_begin, Cond.instanceMethod yX1_begin, Cond.selects RX1 yX1_begin yX1_begin, Cond.code yX1_begin cX1_begin 1 none, Cond.fieldLink RX1 31 "TermLoom$TermStore" "count" "I", Cond.fieldLink RX1 52 "TermLoom$TermStore" "tail" "I", Cond.fieldLink RX1 55 "TermLoom$TermStore" "failed" "Z", Cond.methodLink RX1 43 yX1_start, Cond.instanceMethod yX1_start, Cond.selects RX1 yX1_start yX1_start, Cond.code yX1_start cX1_start 2 (some .int), Cond.methodLink RX4 138 yX1_add, Cond.instanceMethod yX1_add, Cond.selects RX1 yX1_add yX1_add]
def wsL_law0_r14 : List Cond := [Cond.code yX1_add cX1_add 3 none, Cond.methodLink RX1 59 yX1_hasRoom, Cond.instanceMethod yX1_hasRoom, Cond.selects RX1 yX1_hasRoom yX1_hasRoom, Cond.code yX1_hasRoom cX1_hasRoom 2 (some .boolean), Cond.methodLink RX4 151 yX1_keep, Cond.instanceMethod yX1_keep, Cond.selects RX1 yX1_keep yX1_keep, Cond.code yX1_keep cX1_keep 2 (some .int), Cond.methodLink RX1 69 yX1_heightOf, Cond.instanceMethod yX1_heightOf, Cond.selects RX1 yX1_heightOf yX1_heightOf, Cond.code yX1_heightOf cX1_heightOf 5 (some .int), Cond.methodLink RX1 80 Lib.Math.max.name, Cond.methodLink RX1 73 yX3_begin, Cond.instanceMethod yX3_begin, Cond.selects RX3 yX3_begin yX3_begin, Cond.code yX3_begin cX3_begin 1 none, Cond.fieldLink RX3 18 "TermLoom$Walk" "waiting" "I", Cond.fieldLink RX3 22 "TermLoom$Walk" "depth" "I", Cond.fieldLink RX3 25 "TermLoom$Walk" "around" "I", Cond.fieldLink RX3 28 "TermLoom$Walk" "over" "Z", Cond.methodLink RX1 76 yX3_depth, Cond.instanceMethod yX3_depth]
def wsL_law0_r15 : List Cond := [Cond.selects RX3 yX3_depth yX3_depth, Cond.code yX3_depth cX3_depth 1 (some .int), Cond.methodLink RX1 46 yX1_code, Cond.instanceMethod yX1_code, Cond.selects RX1 yX1_code yX1_code, Cond.code yX1_code cX1_code 2 (some .int), Cond.methodLink RX1 85 yX3_pass, Cond.instanceMethod yX3_pass, Cond.selects RX3 yX3_pass yX3_pass, Cond.code yX3_pass cX3_pass 2 none, Cond.methodLink RX3 32 yX3_putOff, Cond.instanceMethod yX3_putOff, Cond.selects RX3 yX3_putOff yX3_putOff, Cond.code yX3_putOff cX3_putOff 1 none, Cond.methodLink RX3 35 yX3_takeUp, Cond.instanceMethod yX3_takeUp, Cond.selects RX3 yX3_takeUp yX3_takeUp, Cond.code yX3_takeUp cX3_takeUp 1 none, Cond.methodLink RL 112 yX5_free, Cond.instanceMethod yX5_free, Cond.selects RX5 yX5_free yX5_free, Cond.code yX5_free cX5_free 3 (some .int), Cond.fieldLink RX5 130 "TermLoomModel" "terms" "I", Cond.methodLink RX5 139 yX5_write]
def wsL_law0_r16 : List Cond := [Cond.instanceMethod yX5_write, Cond.selects RX5 yX5_write yX5_write, Cond.code yX5_write cX5_write 4 (some .int), Cond.methodLink RX5 148 yX5_finish, Cond.instanceMethod yX5_finish, Cond.selects RX5 yX5_finish yX5_finish, Cond.code yX5_finish cX5_finish 3 (some .int), Cond.methodLink RX5 142 yX5_isLong, Cond.instanceMethod yX5_isLong, Cond.selects RX5 yX5_isLong yX5_isLong, Cond.code yX5_isLong cX5_isLong 2 (some .boolean), Cond.methodLink RX5 145 yX5_keepTerm, Cond.instanceMethod yX5_keepTerm, Cond.selects RX5 yX5_keepTerm yX5_keepTerm, Cond.code yX5_keepTerm cX5_keepTerm 4 (some .int), Cond.methodLink RX5 136 yX5_heightOf, Cond.instanceMethod yX5_heightOf, Cond.selects RX5 yX5_heightOf yX5_heightOf, Cond.code yX5_heightOf cX5_heightOf 6 (some .int), Cond.methodLink RX5 127 yX5_endOf, Cond.instanceMethod yX5_endOf, Cond.selects RX5 yX5_endOf yX5_endOf, Cond.code yX5_endOf cX5_endOf 4 (some .int), Cond.methodLink RL 113 yL_constant]
def wsL_law0_r17 : List Cond := [Cond.static yL_constant, Cond.codeWith yL_constant cL_constant 5 (some .int) [(0, 10, 13, 24), (0, 10, 17, 13), (0, 10, 21, 15)], Cond.methodLink RL 36 yX4_constant, Cond.instanceMethod yX4_constant, Cond.selects RX4 yX4_constant yX4_constant, Cond.code yX4_constant cX4_constant 4 (some .int), Cond.methodLink RX4 109 yX2_beginImages, Cond.instanceMethod yX2_beginImages, Cond.selects RX2 yX2_beginImages yX2_beginImages, Cond.code yX2_beginImages cX2_beginImages 1 none, Cond.fieldLink RX2 93 "TermLoom$TypeTable" "stamp" "I", Cond.methodLink RX4 112 yX2_fits, Cond.instanceMethod yX2_fits, Cond.selects RX2 yX2_fits yX2_fits, Cond.code yX2_fits cX2_fits 3 (some .boolean), Cond.methodLink RX2 96 yX2_fitsWithin, Cond.instanceMethod yX2_fitsWithin, Cond.selects RX2 yX2_fitsWithin yX2_fitsWithin, Cond.code yX2_fitsWithin cX2_fitsWithin 5 (some .boolean), Cond.methodLink RX2 100 yX2_hasImage, Cond.instanceMethod yX2_hasImage, Cond.selects RX2 yX2_hasImage yX2_hasImage, Cond.code yX2_hasImage cX2_hasImage 2 (some .boolean), Cond.methodLink RX2 104 yX2_setImage]
def wsL_law0_r18 : List Cond := [Cond.instanceMethod yX2_setImage, Cond.selects RX2 yX2_setImage yX2_setImage, Cond.code yX2_setImage cX2_setImage 3 none, Cond.methodLink RL 115 yX5_constant, Cond.instanceMethod yX5_constant, Cond.selects RX5 yX5_constant yX5_constant, Cond.code yX5_constant cX5_constant 3 (some .int), Cond.methodLink RX5 151 yX5_freeTypes, Cond.instanceMethod yX5_freeTypes, Cond.selects RX5 yX5_freeTypes yX5_freeTypes, Cond.code yX5_freeTypes cX5_freeTypes 2 none, Cond.methodLink RX5 154 yX5_fits, Cond.instanceMethod yX5_fits, Cond.selects RX5 yX5_fits yX5_fits, Cond.code yX5_fits cX5_fits 7 (some .boolean), Cond.methodLink RL 116 yL_apply, Cond.static yL_apply, Cond.codeWith yL_apply cL_apply 5 (some .int) [(0, 10, 13, 24), (0, 10, 17, 13), (0, 10, 21, 15)], Cond.methodLink RL 39 yX4_apply, Cond.instanceMethod yX4_apply, Cond.selects RX4 yX4_apply yX4_apply, Cond.code yX4_apply cX4_apply 4 (some .int), Cond.methodLink RX4 118 yX4_requireTerm, Cond.instanceMethod yX4_requireTerm]
def wsL_law0_r19 : List Cond := [Cond.selects RX4 yX4_requireTerm yX4_requireTerm, Cond.code yX4_requireTerm cX4_requireTerm 2 none, Cond.methodLink RX4 252 yX1_has, Cond.instanceMethod yX1_has, Cond.selects RX1 yX1_has yX1_has, Cond.code yX1_has cX1_has 2 (some .boolean), Cond.methodLink RX4 121 yX1_rootType, Cond.instanceMethod yX1_rootType, Cond.selects RX1 yX1_rootType yX1_rootType, Cond.code yX1_rootType cX1_rootType 2 (some .int), Cond.methodLink RX1 49 yX1_symbolType, Cond.instanceMethod yX1_symbolType, Cond.selects RX1 yX1_symbolType yX1_symbolType, Cond.code yX1_symbolType cX1_symbolType 2 (some .int), Cond.methodLink RX4 124 yX2_head, Cond.methodLink RX4 127 yX2_first, Cond.methodLink RX4 135 yX2_second, Cond.methodLink RX4 142 yX1_start, Cond.methodLink RX4 145 yX1_end, Cond.instanceMethod yX1_end, Cond.selects RX1 yX1_end yX1_end, Cond.code yX1_end cX1_end 2 (some .int), Cond.methodLink RX4 148 yX1_copy, Cond.instanceMethod yX1_copy]
def wsL_law0_r20 : List Cond := [Cond.selects RX1 yX1_copy yX1_copy, Cond.code yX1_copy cX1_copy 4 none, Cond.methodLink RX1 63 arraycopyName, Cond.native arraycopyName, Cond.static arraycopyName, Cond.initialized "java/lang/System", Cond.methodLink RL 118 yX5_apply, Cond.instanceMethod yX5_apply, Cond.selects RX5 yX5_apply yX5_apply, Cond.code yX5_apply cX5_apply 5 (some .int), Cond.methodLink RX5 157 yX5_isTerm, Cond.instanceMethod yX5_isTerm, Cond.selects RX5 yX5_isTerm yX5_isTerm, Cond.code yX5_isTerm cX5_isTerm 2 (some .boolean), Cond.methodLink RX5 160 yX5_topType, Cond.instanceMethod yX5_topType, Cond.selects RX5 yX5_topType yX5_topType, Cond.code yX5_topType cX5_topType 2 (some .int), Cond.methodLink RX5 163 yX5_areSameTypes, Cond.static yX5_areSameTypes, Cond.code yX5_areSameTypes cX5_areSameTypes 2 (some .boolean), Cond.methodLink RX5 166 yX5_copy, Cond.instanceMethod yX5_copy, Cond.selects RX5 yX5_copy yX5_copy]
def wsL_law0_r21 : List Cond := [Cond.code yX5_copy cX5_copy 6 (some .int), Cond.methodLink RL 119 yL_abstraction, Cond.static yL_abstraction, Cond.codeWith yL_abstraction cL_abstraction 5 (some .int) [(0, 10, 13, 24), (0, 10, 17, 13), (0, 10, 21, 15)], Cond.methodLink RL 42 yX4_abstraction, Cond.instanceMethod yX4_abstraction, Cond.selects RX4 yX4_abstraction yX4_abstraction, Cond.code yX4_abstraction cX4_abstraction 5 (some .int), Cond.methodLink RX4 153 yX4_requireFree, Cond.instanceMethod yX4_requireFree, Cond.selects RX4 yX4_requireFree yX4_requireFree, Cond.code yX4_requireFree cX4_requireFree 2 none, Cond.methodLink RX4 159 yX1_root, Cond.instanceMethod yX1_root, Cond.selects RX1 yX1_root yX1_root, Cond.code yX1_root cX1_root 2 (some .int), Cond.methodLink RX4 228 yX4_isOf, Cond.static yX4_isOf, Cond.code yX4_isOf cX4_isOf 2 (some .boolean), Cond.methodLink RX4 156 yX1_addBinding, Cond.instanceMethod yX1_addBinding, Cond.selects RX1 yX1_addBinding yX1_addBinding, Cond.code yX1_addBinding cX1_addBinding 5 none, Cond.methodLink RX1 39 yX1_end]
def wsL_law0_r22 : List Cond := [Cond.methodLink RX1 95 yX1_isVariable, Cond.instanceMethod yX1_isVariable, Cond.selects RX1 yX1_isVariable yX1_isVariable, Cond.code yX1_isVariable cX1_isVariable 3 (some .boolean), Cond.methodLink RX1 89 yX1_root, Cond.methodLink RX1 92 yX1_rootType, Cond.methodLink RX1 99 yX3_around, Cond.instanceMethod yX3_around, Cond.selects RX3 yX3_around yX3_around, Cond.code yX3_around cX3_around 1 (some .int), Cond.methodLink RX1 105 yX1_add, Cond.methodLink RL 121 yX5_abstraction, Cond.instanceMethod yX5_abstraction, Cond.selects RX5 yX5_abstraction yX5_abstraction, Cond.code yX5_abstraction cX5_abstraction 9 (some .int), Cond.methodLink RX5 169 yX5_isFree, Cond.instanceMethod yX5_isFree, Cond.selects RX5 yX5_isFree yX5_isFree, Cond.code yX5_isFree cX5_isFree 2 (some .boolean), Cond.methodLink RX5 133 yX5_lengthOf, Cond.instanceMethod yX5_lengthOf, Cond.selects RX5 yX5_lengthOf yX5_lengthOf, Cond.code yX5_lengthOf cX5_lengthOf 2 (some .int), Cond.methodLink RX5 172 yX5_isVariable]
def wsL_law0_r23 : List Cond := [Cond.instanceMethod yX5_isVariable, Cond.selects RX5 yX5_isVariable yX5_isVariable, Cond.code yX5_isVariable cX5_isVariable 4 (some .boolean), Cond.methodLink RL 122 yL_part, Cond.static yL_part, Cond.codeWith yL_part cL_part 5 (some .int) [(0, 10, 13, 24), (0, 10, 17, 13), (0, 10, 21, 15)], Cond.methodLink RL 45 yX4_part, Cond.instanceMethod yX4_part, Cond.selects RX4 yX4_part yX4_part, Cond.code yX4_part cX4_part 5 (some .int), Cond.methodLink RX4 166 yX1_endOfClosed, Cond.instanceMethod yX1_endOfClosed, Cond.selects RX1 yX1_endOfClosed yX1_endOfClosed, Cond.code yX1_endOfClosed cX1_endOfClosed 4 (some .int), Cond.static yX4_numberOf, Cond.code yX4_numberOf cX4_numberOf 1 (some .int), Cond.methodLink RX1 127 yX3_over, Cond.instanceMethod yX3_over, Cond.selects RX3 yX3_over yX3_over, Cond.code yX3_over cX3_over 1 (some .boolean), Cond.methodLink RL 124 yX5_part, Cond.instanceMethod yX5_part, Cond.selects RX5 yX5_part yX5_part, Cond.code yX5_part cX5_part 4 (some .int)]
def wsL_law0_r24 : List Cond := [Cond.methodLink RL 125 yL_open, Cond.static yL_open, Cond.codeWith yL_open cL_open 5 (some .int) [(0, 10, 13, 24), (0, 10, 17, 13), (0, 10, 21, 15)], Cond.methodLink RL 48 yX4_open, Cond.instanceMethod yX4_open, Cond.selects RX4 yX4_open yX4_open, Cond.code yX4_open cX4_open 3 (some .int), Cond.methodLink RX4 173 yX1_addOpened, Cond.instanceMethod yX1_addOpened, Cond.selects RX1 yX1_addOpened yX1_addOpened, Cond.code yX1_addOpened cX1_addOpened 4 none, Cond.methodLink RX1 109 yX1_addOrCopy, Cond.instanceMethod yX1_addOrCopy, Cond.selects RX1 yX1_addOrCopy yX1_addOrCopy, Cond.code yX1_addOrCopy cX1_addOrCopy 4 none, Cond.methodLink RX1 113 yX1_copy, Cond.methodLink RL 127 yX5_open, Cond.instanceMethod yX5_open, Cond.selects RX5 yX5_open yX5_open, Cond.code yX5_open cX5_open 6 (some .int), Cond.methodLink RL 128 yL_put, Cond.static yL_put, Cond.codeWith yL_put cL_put 6 (some .int) [(0, 12, 15, 24), (0, 12, 19, 13), (0, 12, 23, 15)], Cond.methodLink RL 51 yX4_put]
def wsL_law0_r25 : List Cond := [Cond.instanceMethod yX4_put, Cond.selects RX4 yX4_put yX4_put, Cond.code yX4_put cX4_put 4 (some .int), Cond.methodLink RX4 178 yX1_addReplaced, Cond.instanceMethod yX1_addReplaced, Cond.selects RX1 yX1_addReplaced yX1_addReplaced, Cond.code yX1_addReplaced cX1_addReplaced 5 none, Cond.methodLink RL 130 yX5_put, Cond.instanceMethod yX5_put, Cond.selects RX5 yX5_put yX5_put, Cond.code yX5_put cX5_put 7 (some .int), Cond.methodLink RL 131 yL_retype, Cond.static yL_retype, Cond.codeWith yL_retype cL_retype 6 (some .int) [(0, 12, 15, 24), (0, 12, 19, 13), (0, 12, 23, 15)], Cond.methodLink RL 54 yX4_retype, Cond.instanceMethod yX4_retype, Cond.selects RX4 yX4_retype yX4_retype, Cond.code yX4_retype cX4_retype 7 (some .int), Cond.methodLink RX4 182 yX2_find, Cond.methodLink RX4 185 yX2_setImage, Cond.methodLink RX4 188 yX1_addRetyped, Cond.instanceMethod yX1_addRetyped, Cond.selects RX1 yX1_addRetyped yX1_addRetyped, Cond.code yX1_addRetyped cX1_addRetyped 5 (some .boolean)]
def wsL_law0_r26 : List Cond := [Cond.methodLink RX1 116 yX2_image, Cond.instanceMethod yX2_image, Cond.selects RX2 yX2_image yX2_image, Cond.code yX2_image cX2_image 2 (some .int), Cond.methodLink RX2 108 yX2_imageWithin, Cond.instanceMethod yX2_imageWithin, Cond.selects RX2 yX2_imageWithin yX2_imageWithin, Cond.code yX2_imageWithin cX2_imageWithin 3 (some .int), Cond.methodLink RX2 111 yX2_rebuilt, Cond.instanceMethod yX2_rebuilt, Cond.selects RX2 yX2_rebuilt yX2_rebuilt, Cond.code yX2_rebuilt cX2_rebuilt 6 (some .int), Cond.methodLink RX2 114 yX2_made, Cond.methodLink RL 133 yX5_retype, Cond.instanceMethod yX5_retype, Cond.selects RX5 yX5_retype yX5_retype, Cond.code yX5_retype cX5_retype 8 (some .int), Cond.methodLink RX5 176 yX5_exchange, Cond.instanceMethod yX5_exchange, Cond.selects RX5 yX5_exchange yX5_exchange, Cond.code yX5_exchange cX5_exchange 8 none, Cond.methodLink RL 134 yL_typeOf, Cond.static yL_typeOf, Cond.codeWith yL_typeOf cL_typeOf 4 (some .int) [(0, 9, 12, 24), (0, 9, 15, 15)]]
def wsL_law0_r27 : List Cond := [Cond.methodLink RL 57 yX4_typeOf, Cond.instanceMethod yX4_typeOf, Cond.selects RX4 yX4_typeOf yX4_typeOf, Cond.code yX4_typeOf cX4_typeOf 2 (some .int), Cond.methodLink RL 136 yX5_typeOf, Cond.instanceMethod yX5_typeOf, Cond.selects RX5 yX5_typeOf yX5_typeOf, Cond.code yX5_typeOf cX5_typeOf 2 (some .int), Cond.methodLink RL 137 yL_symbol, Cond.static yL_symbol, Cond.codeWith yL_symbol cL_symbol 5 (some .int) [(0, 10, 13, 24)], Cond.methodLink RL 60 yX4_symbol, Cond.instanceMethod yX4_symbol, Cond.selects RX4 yX4_symbol yX4_symbol, Cond.code yX4_symbol cX4_symbol 3 (some .int), Cond.methodLink RX4 192 yX1_length, Cond.instanceMethod yX1_length, Cond.selects RX1 yX1_length yX1_length, Cond.code yX1_length cX1_length 2 (some .int), Cond.methodLink RX4 197 yX1_code, Cond.methodLink RL 139 yX5_symbol, Cond.instanceMethod yX5_symbol, Cond.selects RX5 yX5_symbol yX5_symbol, Cond.code yX5_symbol cX5_symbol 3 (some .int)]
def wsL_law0_r28 : List Cond := [Cond.methodLink RL 140 yL_measure, Cond.static yL_measure, Cond.codeWith yL_measure cL_measure 5 (some .int) [(0, 10, 13, 24), (0, 10, 17, 13)], Cond.methodLink RL 63 yX4_measure, Cond.instanceMethod yX4_measure, Cond.selects RX4 yX4_measure yX4_measure, Cond.code yX4_measure cX4_measure 3 (some .int), Cond.methodLink RX4 202 yX1_height, Cond.instanceMethod yX1_height, Cond.selects RX1 yX1_height yX1_height, Cond.code yX1_height cX1_height 2 (some .int), Cond.methodLink RL 142 yX5_measure, Cond.instanceMethod yX5_measure, Cond.selects RX5 yX5_measure yX5_measure, Cond.code yX5_measure cX5_measure 3 (some .int), Cond.methodLink RL 143 yL_same, Cond.static yL_same, Cond.codeWith yL_same cL_same 5 (some .int) [(0, 17, 20, 24)], Cond.methodLink RL 66 yX4_same, Cond.instanceMethod yX4_same, Cond.selects RX4 yX4_same yX4_same, Cond.code yX4_same cX4_same 3 (some .boolean), Cond.methodLink RX4 205 yX1_alike, Cond.instanceMethod yX1_alike]
def wsL_law0_r29 : List Cond := [Cond.selects RX1 yX1_alike yX1_alike, Cond.code yX1_alike cX1_alike 6 (some .boolean), Cond.methodLink RL 145 yX5_same, Cond.instanceMethod yX5_same, Cond.selects RX5 yX5_same yX5_same, Cond.code yX5_same cX5_same 3 (some .boolean), Cond.methodLink RX5 180 yX5_areAlike, Cond.instanceMethod yX5_areAlike, Cond.selects RX5 yX5_areAlike yX5_areAlike, Cond.code yX5_areAlike cX5_areAlike 6 (some .boolean), Cond.methodLink RL 146 yL_sameType, Cond.static yL_sameType, Cond.codeWith yL_sameType cL_sameType 5 (some .int) [(0, 17, 20, 24)], Cond.methodLink RL 70 yX4_sameType, Cond.instanceMethod yX4_sameType, Cond.selects RX4 yX4_sameType yX4_sameType, Cond.code yX4_sameType cX4_sameType 3 (some .boolean), Cond.methodLink RL 148 yX5_sameType, Cond.instanceMethod yX5_sameType, Cond.selects RX5 yX5_sameType yX5_sameType, Cond.code yX5_sameType cX5_sameType 3 (some .boolean), Cond.methodLink RL 149 yL_occurs, Cond.static yL_occurs, Cond.codeWith yL_occurs cL_occurs 5 (some .int) [(0, 17, 20, 24), (0, 17, 24, 13)]]
def wsL_law0_r30 : List Cond := [Cond.methodLink RL 73 yX4_occurs, Cond.instanceMethod yX4_occurs, Cond.selects RX4 yX4_occurs yX4_occurs, Cond.code yX4_occurs cX4_occurs 3 (some .boolean), Cond.methodLink RX4 209 yX1_holds, Cond.instanceMethod yX1_holds, Cond.selects RX1 yX1_holds yX1_holds, Cond.code yX1_holds cX1_holds 4 (some .boolean), Cond.methodLink RL 151 yX5_occurs, Cond.instanceMethod yX5_occurs, Cond.selects RX5 yX5_occurs yX5_occurs, Cond.code yX5_occurs cX5_occurs 5 (some .boolean), Cond.methodLink RL 152 yL_match, Cond.static yL_match, Cond.codeWith yL_match cL_match 5 (some .int) [(0, 10, 13, 24)], Cond.methodLink RL 76 yX4_match, Cond.instanceMethod yX4_match, Cond.selects RX4 yX4_match yX4_match, Cond.code yX4_match cX4_match 3 (some .int), Cond.methodLink RX4 212 yX0_forget, Cond.instanceMethod yX0_forget, Cond.selects RX0 yX0_forget yX0_forget, Cond.code yX0_forget cX0_forget 2 none, Cond.fieldLink RX0 36 "TermLoom$Bindings" "count" "I"]
def wsL_law0_r31 : List Cond := [Cond.methodLink RX0 44 yX0_setNewest, Cond.instanceMethod yX0_setNewest, Cond.selects RX0 yX0_setNewest yX0_setNewest, Cond.code yX0_setNewest cX0_setNewest 4 none, Cond.methodLink RX4 215 yX4_wholeFits, Cond.instanceMethod yX4_wholeFits, Cond.selects RX4 yX4_wholeFits yX4_wholeFits, Cond.code yX4_wholeFits cX4_wholeFits 5 (some .boolean), Cond.methodLink RX4 225 yX4_behindFitting, Cond.instanceMethod yX4_behindFitting, Cond.selects RX4 yX4_behindFitting yX4_behindFitting, Cond.code yX4_behindFitting cX4_behindFitting 7 (some .int), Cond.methodLink RX4 231 yX4_behindBinding, Cond.instanceMethod yX4_behindBinding, Cond.selects RX4 yX4_behindBinding yX4_behindBinding, Cond.code yX4_behindBinding cX4_behindBinding 8 (some .int), Cond.methodLink RX4 234 yX1_symbolType, Cond.methodLink RX4 237 yX0_find, Cond.instanceMethod yX0_find, Cond.selects RX0 yX0_find yX0_find, Cond.code yX0_find cX0_find 5 (some .int), Cond.methodLink RX4 221 yX0_from, Cond.instanceMethod yX0_from, Cond.selects RX0 yX0_from yX0_from]
def wsL_law0_r32 : List Cond := [Cond.code yX0_from cX0_from 2 (some .int), Cond.methodLink RX4 224 yX0_end, Cond.instanceMethod yX0_end, Cond.selects RX0 yX0_end yX0_end, Cond.code yX0_end cX0_end 2 (some .int), Cond.methodLink RX4 239 yX0_add, Cond.instanceMethod yX0_add, Cond.selects RX0 yX0_add yX0_add, Cond.code yX0_add cX0_add 5 none, Cond.methodLink RX4 218 yX0_count, Cond.instanceMethod yX0_count, Cond.selects RX0 yX0_count yX0_count, Cond.code yX0_count cX0_count 1 (some .int), Cond.methodLink RL 154 yX5_match, Cond.instanceMethod yX5_match, Cond.selects RX5 yX5_match yX5_match, Cond.code yX5_match cX5_match 8 (some .int), Cond.methodLink RX5 186 yX5_takesPart, Cond.instanceMethod yX5_takesPart, Cond.selects RX5 yX5_takesPart yX5_takesPart, Cond.code yX5_takesPart cX5_takesPart 5 (some .boolean), Cond.methodLink RX5 183 yX5_isClosed, Cond.instanceMethod yX5_isClosed, Cond.selects RX5 yX5_isClosed yX5_isClosed]
def wsL_law0_r33 : List Cond := [Cond.code yX5_isClosed cX5_isClosed 5 (some .boolean), Cond.methodLink RX5 189 yX5_isFit, Cond.instanceMethod yX5_isFit, Cond.selects RX5 yX5_isFit yX5_isFit, Cond.code yX5_isFit cX5_isFit 3 (some .boolean), Cond.methodLink RL 155 yL_matched, Cond.static yL_matched, Cond.codeWith yL_matched cL_matched 4 (some .int) [(0, 9, 12, 24), (0, 9, 15, 15)], Cond.methodLink RL 79 yX4_matched, Cond.instanceMethod yX4_matched, Cond.selects RX4 yX4_matched yX4_matched, Cond.code yX4_matched cX4_matched 2 (some .int), Cond.methodLink RL 157 yX5_matched, Cond.instanceMethod yX5_matched, Cond.selects RX5 yX5_matched yX5_matched, Cond.code yX5_matched cX5_matched 2 (some .int)]
def wsL_law0 : List Cond := (wsL_law0_r1 ++ (wsL_law0_r2 ++ (wsL_law0_r3 ++ (wsL_law0_r4 ++ (wsL_law0_r5 ++ (wsL_law0_r6 ++ (wsL_law0_r7 ++ (wsL_law0_r8 ++ (wsL_law0_r9 ++ (wsL_law0_r10 ++ (wsL_law0_r11 ++ (wsL_law0_r12 ++ (wsL_law0_r13 ++ (wsL_law0_r14 ++ (wsL_law0_r15 ++ (wsL_law0_r16 ++ (wsL_law0_r17 ++ (wsL_law0_r18 ++ (wsL_law0_r19 ++ (wsL_law0_r20 ++ (wsL_law0_r21 ++ (wsL_law0_r22 ++ (wsL_law0_r23 ++ (wsL_law0_r24 ++ (wsL_law0_r25 ++ (wsL_law0_r26 ++ (wsL_law0_r27 ++ (wsL_law0_r28 ++ (wsL_law0_r29 ++ (wsL_law0_r30 ++ (wsL_law0_r31 ++ (wsL_law0_r32 ++ wsL_law0_r33)))))))))))))))))))))))))))))))) ++ wsX40 ++ wsX50 ++ wsX20 ++ wsX10 ++ wsX00 ++ wsX30 ++ ([] : List Cond)
def wsL_law : List Cond := wsL_law0 ++ (vx_atS RX4 48 "java/lang/IllegalArgumentException" ["java/lang/RuntimeException", "java/lang/Exception"]).filter goodWord ++ (vx_atS RX4 55 "java/lang/IllegalStateException" ["java/lang/RuntimeException", "java/lang/Exception"]).filter goodWord ++ (vx_atS RX4 95 "java/lang/IndexOutOfBoundsException" ["java/lang/RuntimeException", "java/lang/Exception"]).filter goodWord
theorem inlX0 : ∀ w ∈ wsX00, w ∈ wsL_law := fun _ h => List.mem_append_left _ (List.mem_append_left _ (List.mem_append_left _ (List.mem_append_left _ (List.mem_append_left _ (List.mem_append_right _ h)))))
theorem inlX1 : ∀ w ∈ wsX10, w ∈ wsL_law := fun _ h => List.mem_append_left _ (List.mem_append_left _ (List.mem_append_left _ (List.mem_append_left _ (List.mem_append_left _ (List.mem_append_left _ (List.mem_append_right _ h))))))
theorem inlX2 : ∀ w ∈ wsX20, w ∈ wsL_law := fun _ h => List.mem_append_left _ (List.mem_append_left _ (List.mem_append_left _ (List.mem_append_left _ (List.mem_append_left _ (List.mem_append_left _ (List.mem_append_left _ (List.mem_append_right _ h)))))))
theorem inlX3 : ∀ w ∈ wsX30, w ∈ wsL_law := fun _ h => List.mem_append_left _ (List.mem_append_left _ (List.mem_append_left _ (List.mem_append_left _ (List.mem_append_right _ h))))
theorem inlX4 : ∀ w ∈ wsX40, w ∈ wsL_law := fun _ h => List.mem_append_left _ (List.mem_append_left _ (List.mem_append_left _ (List.mem_append_left _ (List.mem_append_left _ (List.mem_append_left _ (List.mem_append_left _ (List.mem_append_left _ (List.mem_append_left _ (List.mem_append_right _ h)))))))))
theorem inlX5 : ∀ w ∈ wsX50, w ∈ wsL_law := fun _ h => List.mem_append_left _ (List.mem_append_left _ (List.mem_append_left _ (List.mem_append_left _ (List.mem_append_left _ (List.mem_append_left _ (List.mem_append_left _ (List.mem_append_left _ (List.mem_append_right _ h))))))))
set_option maxRecDepth 20000 in
theorem ggL_law_X4_init : GoodIn wsL_law wsX4_init := goodIn_r _ [9, 10, 11, 12, 13, 14, 15, 16, 17, 18, 19, 20, 21, 22, 23, 24, 25, 26, 27, 28, 29, 30, 31, 32, 33, 34, 35, 36, 37, 38, 39, 40, 41, 42, 43, 44, 45, 46, 47, 48, 49, 50, 51, 52, 53, 54, 55, 56, 57, 58, 59, 60, 61, 62, 63, 64, 65, 66, 67, 68, 69, 70, 71, 72, 73, 74, 821, 822, 823, 824, 825, 826, 827, 828, 829, 830, 831, 832, 833, 834, 784, 785, 786, 787, 788, 789, 790, 835, 836, 837, 838, 839, 840, 841, 842, 843, 844, 845, 846, 847, 848, 849, 850, 851, 852, 853, 854, 855] (by decide +kernel) (by decide +kernel)
set_option maxRecDepth 20000 in
theorem gL_law_X4_init : GoodIn wsL_law (wsX4_init) := ggL_law_X4_init
set_option maxRecDepth 20000 in
theorem ggL_law_X5_init : GoodIn wsL_law wsX5_init := goodIn_r _ [77, 78, 11, 12, 79, 25, 80, 81, 82, 83, 84, 85, 86, 87, 88, 89, 90, 91, 92, 93, 94, 95, 96, 97, 98, 99, 100, 101, 102, 103, 104, 791, 792, 793, 794, 795, 796, 797, 798, 799, 800, 801, 802, 803, 804, 805, 806, 807, 808, 809, 810, 811, 812, 813, 814, 815, 816, 817, 818, 819, 820] (by decide +kernel) (by decide +kernel)
set_option maxRecDepth 20000 in
theorem gL_law_X5_init : GoodIn wsL_law (wsX5_init) := ggL_law_X5_init
set_option maxRecDepth 20000 in
theorem ggL_law_L_constructor : GoodIn wsL_law wsL_constructor := goodIn_ca (goodIn_ca (goodIn_r _ [108, 109, 110, 111, 112, 113, 2, 114, 115, 116, 117, 118, 28, 26, 784, 785, 786, 787, 788, 789, 790] (by decide +kernel) (by decide +kernel)) (goodIn_sub (fun _ h => List.mem_append_left _ (List.mem_append_left _ (List.mem_append_right _ h))) (by decide +kernel))) (goodIn_sub (fun _ h => List.mem_append_left _ (List.mem_append_right _ h)) (by decide +kernel))
set_option maxRecDepth 20000 in
theorem gL_law_L_constructor : GoodIn wsL_law (va_wsS RL 86 yL_constructor wsL_constructor) := goodIn_app (goodIn_of _ (by decide +kernel)) ggL_law_L_constructor
set_option maxRecDepth 20000 in
theorem ggL_law_X5_constructor : GoodIn wsL_law wsX5_constructor := goodIn_r _ [122, 79, 123, 80, 124, 125, 5, 126, 791, 792, 793, 794, 795, 796, 797, 798, 799, 800, 801, 802, 803, 804, 805, 806, 807, 808, 809, 810, 811, 812, 813, 814, 815, 816, 817, 818, 819, 820] (by decide +kernel) (by decide +kernel)
set_option maxRecDepth 20000 in
theorem gL_law_X5_constructor : GoodIn wsL_law (wsV RL 91 RX5 yX5_constructor wsX5_constructor) := goodIn_app (goodIn_of _ (by decide +kernel)) ggL_law_X5_constructor
set_option maxRecDepth 20000 in
theorem ggL_law_X5_thrown : GoodIn wsL_law wsX5_thrown := goodIn_r _ [130, 123, 791, 792, 793, 794, 795, 796, 797, 798, 799, 800, 801, 802, 803, 804, 805, 806, 807, 808, 809, 810, 811, 812, 813, 814, 815, 816, 817, 818, 819, 820] (by decide +kernel) (by decide +kernel)
set_option maxRecDepth 20000 in
theorem gL_law_X5_thrown : GoodIn wsL_law (wsV RL 92 RX5 yX5_thrown wsX5_thrown) := goodIn_app (goodIn_of _ (by decide +kernel)) ggL_law_X5_thrown
set_option maxRecDepth 20000 in
theorem ggL_law_L_typeVariable : GoodIn wsL_law wsL_typeVariable := goodIn_ca (goodIn_ca (goodIn_r _ [133, 109, 110, 134, 135, 136, 2, 137, 16, 138, 139, 140, 115, 116, 141, 142, 143, 15, 144, 145, 146, 147, 148, 149, 150, 151, 152, 153, 154, 155, 156, 34, 35, 36, 37, 38, 39, 40, 157, 158, 159, 160, 161, 162, 163, 164, 165, 166, 167, 168, 169, 170, 171, 172, 173, 174, 175, 176, 177, 178, 179, 43, 180, 181, 182, 183, 117, 118, 184, 185, 186, 187, 188, 189, 190, 784, 785, 786, 787, 788, 789, 790, 821, 822, 823, 824, 825, 826, 827, 828, 829, 830, 831, 832, 833, 834] (by decide +kernel) (by decide +kernel)) (goodIn_sub (fun _ h => List.mem_append_left _ (List.mem_append_left _ (List.mem_append_right _ h))) (by decide +kernel))) (goodIn_sub (fun _ h => List.mem_append_left _ (List.mem_append_right _ h)) (by decide +kernel))
set_option maxRecDepth 20000 in
theorem gL_law_L_typeVariable : GoodIn wsL_law (va_wsS RL 96 yL_typeVariable wsL_typeVariable) := goodIn_app (goodIn_of _ (by decide +kernel)) ggL_law_L_typeVariable
set_option maxRecDepth 20000 in
theorem ggL_law_X5_typeVariable : GoodIn wsL_law wsX5_typeVariable := goodIn_r _ [194, 123, 195, 124, 125, 5, 126, 196, 197, 198, 199, 88, 82, 83, 84, 87, 85, 86, 200, 201, 202, 203, 204, 205, 206, 207, 89, 208, 209, 210, 211, 212, 213, 214, 215, 216, 217, 218, 219, 220, 791, 792, 793, 794, 795, 796, 797, 798, 799, 800, 801, 802, 803, 804, 805, 806, 807, 808, 809, 810, 811, 812, 813, 814, 815, 816, 817, 818, 819, 820] (by decide +kernel) (by decide +kernel)
set_option maxRecDepth 20000 in
theorem gL_law_X5_typeVariable : GoodIn wsL_law (wsV RL 98 RX5 yX5_typeVariable wsX5_typeVariable) := goodIn_app (goodIn_of _ (by decide +kernel)) ggL_law_X5_typeVariable
set_option maxRecDepth 20000 in
theorem ggL_law_L_type : GoodIn wsL_law wsL_type := goodIn_ca (goodIn_ca (goodIn_ca (goodIn_r _ [223, 109, 224, 110, 225, 226, 227, 2, 228, 115, 116, 28, 26, 16, 229, 161, 162, 230, 231, 232, 233, 234, 235, 236, 237, 238, 15, 239, 178, 43, 141, 142, 143, 144, 145, 149, 150, 151, 152, 153, 154, 155, 156, 34, 35, 36, 37, 38, 39, 40, 157, 158, 159, 160, 163, 164, 165, 166, 167, 168, 169, 170, 171, 172, 173, 174, 175, 176, 177, 179, 180, 181, 182, 183, 117, 118, 184, 185, 186, 187, 188, 189, 190, 784, 785, 786, 787, 788, 789, 790, 821, 822, 823, 824, 825, 826, 827, 828, 829, 830, 831, 832, 833, 834] (by decide +kernel) (by decide +kernel)) (goodIn_sub (fun _ h => List.mem_append_left _ (List.mem_append_left _ (List.mem_append_right _ h))) (by decide +kernel))) (goodIn_sub (fun _ h => List.mem_append_right _ h) (by decide +kernel))) (goodIn_sub (fun _ h => List.mem_append_left _ (List.mem_append_right _ h)) (by decide +kernel))
set_option maxRecDepth 20000 in
theorem gL_law_L_type : GoodIn wsL_law (va_wsS RL 99 yL_type wsL_type) := goodIn_app (goodIn_of _ (by decide +kernel)) ggL_law_L_type
set_option maxRecDepth 20000 in
theorem ggL_law_X5_type : GoodIn wsL_law wsX5_type := goodIn_r _ [243, 79, 80, 208, 123, 195, 89, 124, 125, 5, 126, 196, 197, 198, 199, 88, 82, 83, 84, 87, 85, 86, 200, 201, 202, 203, 204, 205, 206, 207, 209, 210, 211, 212, 213, 214, 215, 216, 217, 218, 219, 220, 791, 792, 793, 794, 795, 796, 797, 798, 799, 800, 801, 802, 803, 804, 805, 806, 807, 808, 809, 810, 811, 812, 813, 814, 815, 816, 817, 818, 819, 820] (by decide +kernel) (by decide +kernel)
set_option maxRecDepth 20000 in
theorem gL_law_X5_type : GoodIn wsL_law (wsV RL 102 RX5 yX5_type wsX5_type) := goodIn_app (goodIn_of _ (by decide +kernel)) ggL_law_X5_type
set_option maxRecDepth 20000 in
theorem ggL_law_L_typeSymbol : GoodIn wsL_law wsL_typeSymbol := goodIn_ca (goodIn_r _ [246, 224, 247, 248, 249, 2, 250, 234, 235, 16, 230, 231, 232, 233, 236, 237, 238, 15, 239, 178, 43, 161, 162, 251, 158, 159, 160, 37, 252, 253, 254, 255, 256, 257, 258, 259, 35, 157, 260, 261, 262, 263, 36, 264, 265, 266, 267, 34, 784, 785, 786, 787, 788, 789, 790, 821, 822, 823, 824, 825, 826, 827, 828, 829, 830, 831, 832, 833, 834] (by decide +kernel) (by decide +kernel)) (goodIn_sub (fun _ h => List.mem_append_right _ h) (by decide +kernel))
set_option maxRecDepth 20000 in
theorem gL_law_L_typeSymbol : GoodIn wsL_law (va_wsS RL 103 yL_typeSymbol wsL_typeSymbol) := goodIn_app (goodIn_of _ (by decide +kernel)) ggL_law_L_typeSymbol
set_option maxRecDepth 20000 in
theorem ggL_law_X5_typeSymbol : GoodIn wsL_law wsX5_typeSymbol := goodIn_r _ [271, 208, 85, 89, 123, 83, 84, 82, 124, 125, 5, 126, 791, 792, 793, 794, 795, 796, 797, 798, 799, 800, 801, 802, 803, 804, 805, 806, 807, 808, 809, 810, 811, 812, 813, 814, 815, 816, 817, 818, 819, 820] (by decide +kernel) (by decide +kernel)
set_option maxRecDepth 20000 in
theorem gL_law_X5_typeSymbol : GoodIn wsL_law (wsV RL 106 RX5 yX5_typeSymbol wsX5_typeSymbol) := goodIn_app (goodIn_of _ (by decide +kernel)) ggL_law_X5_typeSymbol
set_option maxRecDepth 20000 in
theorem ggL_law_L_declare : GoodIn wsL_law wsL_declare := goodIn_ca (goodIn_ca (goodIn_r _ [274, 224, 110, 275, 276, 277, 2, 278, 117, 118, 29, 27, 230, 231, 232, 233, 234, 235, 16, 236, 237, 238, 15, 239, 178, 43, 161, 162, 784, 785, 786, 787, 788, 789, 790, 821, 822, 823, 824, 825, 826, 827, 828, 829, 830, 831, 832, 833, 834] (by decide +kernel) (by decide +kernel)) (goodIn_sub (fun _ h => List.mem_append_left _ (List.mem_append_right _ h)) (by decide +kernel))) (goodIn_sub (fun _ h => List.mem_append_right _ h) (by decide +kernel))
set_option maxRecDepth 20000 in
theorem gL_law_L_declare : GoodIn wsL_law (va_wsS RL 107 yL_declare wsL_declare) := goodIn_app (goodIn_of _ (by decide +kernel)) ggL_law_L_declare
set_option maxRecDepth 20000 in
theorem ggL_law_X5_declare : GoodIn wsL_law wsX5_declare := goodIn_r _ [282, 208, 283, 123, 81, 89, 124, 125, 5, 126, 791, 792, 793, 794, 795, 796, 797, 798, 799, 800, 801, 802, 803, 804, 805, 806, 807, 808, 809, 810, 811, 812, 813, 814, 815, 816, 817, 818, 819, 820] (by decide +kernel) (by decide +kernel)
set_option maxRecDepth 20000 in
theorem gL_law_X5_declare : GoodIn wsL_law (wsV RL 109 RX5 yX5_declare wsX5_declare) := goodIn_app (goodIn_of _ (by decide +kernel)) ggL_law_X5_declare
set_option maxRecDepth 20000 in
theorem ggL_law_L_free : GoodIn wsL_law wsL_free := goodIn_ca (goodIn_ca (goodIn_ca (goodIn_r _ [286, 224, 109, 110, 287, 288, 289, 2, 290, 230, 231, 232, 233, 234, 235, 16, 236, 237, 238, 15, 239, 178, 43, 161, 162, 138, 139, 140, 115, 116, 291, 292, 293, 294, 295, 296, 297, 20, 298, 299, 300, 19, 301, 302, 303, 304, 305, 306, 307, 308, 53, 309, 310, 311, 312, 51, 52, 313, 314, 315, 316, 317, 318, 319, 320, 54, 321, 322, 323, 324, 58, 325, 154, 155, 156, 326, 327, 328, 57, 329, 330, 331, 332, 333, 334, 335, 336, 337, 338, 339, 340, 341, 342, 343, 344, 345, 346, 347, 348, 349, 62, 63, 350, 351, 352, 353, 141, 142, 143, 144, 145, 180, 181, 182, 183, 117, 118, 184, 185, 186, 187, 188, 189, 190, 40, 34, 35, 36, 39, 171, 172, 173, 784, 785, 786, 787, 788, 789, 790, 821, 822, 823, 824, 825, 826, 827, 828, 829, 830, 831, 832, 833, 834, 835, 836, 837, 838, 839, 840, 841, 842, 850, 851, 852, 853, 854, 855] (by decide +kernel) (by decide +kernel)) (goodIn_sub (fun _ h => List.mem_append_right _ h) (by decide +kernel))) (goodIn_sub (fun _ h => List.mem_append_left _ (List.mem_append_left _ (List.mem_append_right _ h))) (by decide +kernel))) (goodIn_sub (fun _ h => List.mem_append_left _ (List.mem_append_right _ h)) (by decide +kernel))
set_option maxRecDepth 20000 in
theorem gL_law_L_free : GoodIn wsL_law (va_wsS RL 110 yL_free wsL_free) := goodIn_app (goodIn_of _ (by decide +kernel)) ggL_law_L_free
set_option maxRecDepth 20000 in
theorem ggL_law_X5_free : GoodIn wsL_law wsX5_free := goodIn_r _ [357, 208, 123, 93, 358, 89, 124, 125, 5, 126, 359, 360, 361, 362, 95, 96, 363, 364, 365, 366, 367, 368, 369, 370, 213, 214, 215, 216, 371, 372, 373, 374, 375, 376, 377, 378, 99, 379, 380, 381, 382, 791, 792, 793, 794, 795, 796, 797, 798, 799, 800, 801, 802, 803, 804, 805, 806, 807, 808, 809, 810, 811, 812, 813, 814, 815, 816, 817, 818, 819, 820] (by decide +kernel) (by decide +kernel)
set_option maxRecDepth 20000 in
theorem gL_law_X5_free : GoodIn wsL_law (wsV RL 112 RX5 yX5_free wsX5_free) := goodIn_app (goodIn_of _ (by decide +kernel)) ggL_law_X5_free
set_option maxRecDepth 20000 in
theorem ggL_law_L_constant : GoodIn wsL_law wsL_constant := goodIn_ca (goodIn_ca (goodIn_ca (goodIn_r _ [385, 224, 109, 110, 386, 387, 388, 2, 389, 115, 116, 29, 16, 27, 230, 231, 232, 233, 234, 235, 236, 237, 238, 15, 239, 178, 43, 161, 162, 390, 391, 392, 393, 394, 229, 395, 396, 397, 398, 399, 400, 401, 402, 41, 403, 404, 405, 406, 42, 264, 265, 266, 267, 34, 256, 257, 258, 259, 35, 260, 261, 262, 263, 36, 407, 408, 409, 410, 291, 292, 293, 294, 295, 296, 297, 20, 298, 299, 300, 19, 301, 302, 303, 304, 305, 306, 307, 308, 53, 309, 310, 311, 312, 51, 52, 313, 314, 315, 316, 317, 318, 319, 320, 54, 321, 322, 323, 324, 58, 325, 154, 155, 156, 326, 327, 328, 57, 329, 330, 331, 332, 333, 334, 335, 336, 337, 338, 339, 340, 341, 342, 343, 344, 345, 346, 347, 348, 349, 62, 63, 350, 351, 352, 353, 141, 142, 143, 144, 145, 180, 181, 182, 183, 117, 118, 184, 185, 186, 187, 188, 189, 190, 40, 39, 171, 172, 173, 784, 785, 786, 787, 788, 789, 790, 821, 822, 823, 824, 825, 826, 827, 828, 829, 830, 831, 832, 833, 834, 835, 836, 837, 838, 839, 840, 841, 842, 850, 851, 852, 853, 854, 855] (by decide +kernel) (by decide +kernel)) (goodIn_sub (fun _ h => List.mem_append_left _ (List.mem_append_left _ (List.mem_append_right _ h))) (by decide +kernel))) (goodIn_sub (fun _ h => List.mem_append_right _ h) (by decide +kernel))) (goodIn_sub (fun _ h => List.mem_append_left _ (List.mem_append_right _ h)) (by decide +kernel))
set_option maxRecDepth 20000 in
theorem gL_law_L_constant : GoodIn wsL_law (va_wsS RL 113 yL_constant wsL_constant) := goodIn_app (goodIn_of _ (by decide +kernel)) ggL_law_L_constant
set_option maxRecDepth 20000 in
theorem ggL_law_X5_constant : GoodIn wsL_law wsX5_constant := goodIn_r _ [414, 123, 208, 283, 81, 89, 93, 358, 124, 125, 5, 126, 213, 214, 215, 216, 415, 416, 417, 418, 100, 419, 420, 421, 422, 97, 98, 82, 84, 83, 359, 360, 361, 362, 95, 96, 363, 364, 365, 366, 367, 368, 369, 370, 371, 372, 373, 374, 375, 376, 377, 378, 99, 379, 380, 381, 382, 791, 792, 793, 794, 795, 796, 797, 798, 799, 800, 801, 802, 803, 804, 805, 806, 807, 808, 809, 810, 811, 812, 813, 814, 815, 816, 817, 818, 819, 820] (by decide +kernel) (by decide +kernel)
set_option maxRecDepth 20000 in
theorem gL_law_X5_constant : GoodIn wsL_law (wsV RL 115 RX5 yX5_constant wsX5_constant) := goodIn_app (goodIn_of _ (by decide +kernel)) ggL_law_X5_constant
set_option maxRecDepth 20000 in
theorem ggL_law_L_apply : GoodIn wsL_law wsL_apply := goodIn_ca (goodIn_ca (goodIn_ca (goodIn_r _ [425, 224, 109, 110, 426, 427, 428, 2, 429, 115, 116, 20, 16, 430, 431, 432, 433, 234, 235, 434, 435, 436, 19, 437, 302, 438, 439, 440, 441, 305, 306, 307, 308, 53, 161, 162, 442, 443, 444, 445, 52, 446, 265, 266, 15, 267, 34, 447, 257, 258, 259, 35, 298, 299, 300, 301, 303, 304, 448, 261, 262, 263, 36, 309, 310, 311, 312, 51, 313, 314, 315, 316, 449, 450, 451, 452, 453, 454, 455, 456, 457, 458, 459, 460, 461, 317, 318, 319, 320, 54, 321, 322, 323, 324, 58, 325, 154, 155, 156, 326, 327, 328, 57, 329, 330, 331, 332, 333, 334, 335, 336, 337, 338, 339, 340, 341, 342, 343, 344, 345, 346, 347, 348, 349, 62, 63, 350, 351, 352, 353, 141, 142, 143, 144, 145, 180, 181, 182, 183, 117, 118, 184, 185, 186, 187, 188, 189, 190, 40, 39, 171, 172, 173, 784, 785, 786, 787, 788, 789, 790, 835, 836, 837, 838, 839, 840, 841, 842, 821, 822, 823, 824, 825, 826, 827, 828, 829, 830, 831, 832, 833, 834, 850, 851, 852, 853, 854, 855] (by decide +kernel) (by decide +kernel)) (goodIn_sub (fun _ h => List.mem_append_left _ (List.mem_append_left _ (List.mem_append_right _ h))) (by decide +kernel))) (goodIn_sub (fun _ h => List.mem_append_right _ h) (by decide +kernel))) (goodIn_sub (fun _ h => List.mem_append_left _ (List.mem_append_right _ h)) (by decide +kernel))
set_option maxRecDepth 20000 in
theorem gL_law_L_apply : GoodIn wsL_law (va_wsS RL 116 yL_apply wsL_apply) := goodIn_app (goodIn_of _ (by decide +kernel)) ggL_law_L_apply
set_option maxRecDepth 20000 in
theorem ggL_law_X5_apply : GoodIn wsL_law wsX5_apply := goodIn_r _ [465, 123, 82, 83, 93, 358, 84, 466, 467, 468, 5, 469, 124, 125, 126, 213, 214, 215, 216, 470, 471, 472, 473, 96, 474, 475, 476, 359, 360, 361, 362, 95, 477, 478, 479, 480, 363, 364, 365, 366, 367, 368, 369, 370, 371, 372, 373, 374, 375, 376, 377, 378, 99, 379, 380, 381, 382, 791, 792, 793, 794, 795, 796, 797, 798, 799, 800, 801, 802, 803, 804, 805, 806, 807, 808, 809, 810, 811, 812, 813, 814, 815, 816, 817, 818, 819, 820] (by decide +kernel) (by decide +kernel)
set_option maxRecDepth 20000 in
theorem gL_law_X5_apply : GoodIn wsL_law (wsV RL 118 RX5 yX5_apply wsX5_apply) := goodIn_app (goodIn_of _ (by decide +kernel)) ggL_law_X5_apply
set_option maxRecDepth 20000 in
theorem ggL_law_L_abstraction : GoodIn wsL_law wsL_abstraction := goodIn_ca (goodIn_ca (goodIn_ca (goodIn_r _ [483, 224, 109, 110, 484, 485, 486, 2, 487, 16, 20, 430, 431, 432, 433, 234, 235, 434, 435, 436, 19, 437, 302, 488, 489, 490, 491, 115, 116, 492, 493, 494, 495, 305, 306, 307, 308, 53, 161, 162, 338, 339, 340, 341, 51, 496, 497, 498, 141, 142, 143, 15, 144, 145, 438, 439, 440, 441, 442, 443, 444, 445, 52, 149, 150, 151, 152, 153, 154, 155, 156, 34, 35, 36, 37, 38, 39, 40, 157, 158, 159, 160, 163, 164, 165, 166, 167, 168, 169, 170, 171, 172, 173, 298, 299, 300, 301, 303, 304, 309, 310, 311, 312, 313, 314, 315, 316, 499, 500, 501, 502, 58, 326, 327, 328, 57, 329, 330, 331, 332, 333, 503, 451, 452, 453, 504, 505, 506, 507, 508, 509, 510, 511, 512, 513, 292, 293, 514, 342, 343, 344, 345, 346, 347, 348, 349, 62, 63, 350, 351, 352, 353, 317, 318, 319, 320, 54, 321, 322, 323, 324, 325, 334, 335, 336, 337, 180, 181, 182, 183, 117, 118, 184, 185, 186, 187, 188, 189, 190, 784, 785, 786, 787, 788, 789, 790, 835, 836, 837, 838, 839, 840, 841, 842, 821, 822, 823, 824, 825, 826, 827, 828, 829, 830, 831, 832, 833, 834, 850, 851, 852, 853, 854, 855] (by decide +kernel) (by decide +kernel)) (goodIn_sub (fun _ h => List.mem_append_right _ h) (by decide +kernel))) (goodIn_sub (fun _ h => List.mem_append_left _ (List.mem_append_left _ (List.mem_append_right _ h))) (by decide +kernel))) (goodIn_sub (fun _ h => List.mem_append_left _ (List.mem_append_right _ h)) (by decide +kernel))
set_option maxRecDepth 20000 in
theorem gL_law_L_abstraction : GoodIn wsL_law (va_wsS RL 119 yL_abstraction wsL_abstraction) := goodIn_app (goodIn_of _ (by decide +kernel)) ggL_law_L_abstraction
set_option maxRecDepth 20000 in
theorem ggL_law_X5_abstraction : GoodIn wsL_law wsX5_abstraction := goodIn_r _ [518, 123, 95, 93, 195, 358, 99, 96, 466, 467, 468, 5, 469, 124, 125, 126, 213, 214, 215, 216, 519, 520, 521, 522, 523, 524, 525, 526, 470, 471, 472, 473, 196, 197, 198, 199, 88, 82, 83, 84, 87, 85, 86, 200, 201, 202, 359, 360, 361, 362, 527, 528, 529, 530, 474, 475, 476, 379, 380, 381, 382, 209, 210, 211, 212, 363, 364, 365, 366, 367, 368, 369, 370, 371, 372, 373, 374, 375, 376, 377, 378, 217, 218, 219, 220, 791, 792, 793, 794, 795, 796, 797, 798, 799, 800, 801, 802, 803, 804, 805, 806, 807, 808, 809, 810, 811, 812, 813, 814, 815, 816, 817, 818, 819, 820] (by decide +kernel) (by decide +kernel)
set_option maxRecDepth 20000 in
theorem gL_law_X5_abstraction : GoodIn wsL_law (wsV RL 121 RX5 yX5_abstraction wsX5_abstraction) := goodIn_app (goodIn_of _ (by decide +kernel)) ggL_law_X5_abstraction
set_option maxRecDepth 20000 in
theorem ggL_law_L_part : GoodIn wsL_law wsL_part := goodIn_ca (goodIn_ca (goodIn_ca (goodIn_r _ [533, 224, 109, 110, 534, 535, 536, 2, 537, 115, 116, 20, 16, 430, 431, 432, 433, 234, 235, 434, 435, 436, 19, 437, 302, 492, 493, 494, 495, 305, 306, 307, 308, 53, 161, 162, 338, 339, 340, 341, 51, 449, 538, 539, 540, 541, 58, 326, 327, 328, 57, 329, 330, 331, 332, 333, 497, 498, 542, 543, 510, 511, 512, 513, 342, 343, 344, 345, 346, 347, 348, 349, 62, 63, 350, 351, 352, 353, 544, 545, 546, 547, 298, 299, 300, 301, 303, 304, 450, 451, 452, 453, 454, 455, 456, 457, 458, 459, 460, 461, 52, 313, 314, 315, 316, 317, 318, 319, 320, 54, 321, 322, 323, 324, 325, 154, 155, 156, 334, 335, 336, 337, 141, 142, 143, 15, 144, 145, 180, 181, 182, 183, 117, 118, 184, 185, 186, 187, 188, 189, 190, 40, 34, 35, 36, 39, 171, 172, 173, 784, 785, 786, 787, 788, 789, 790, 835, 836, 837, 838, 839, 840, 841, 842, 850, 851, 852, 853, 854, 855, 821, 822, 823, 824, 825, 826, 827, 828, 829, 830, 831, 832, 833, 834] (by decide +kernel) (by decide +kernel)) (goodIn_sub (fun _ h => List.mem_append_left _ (List.mem_append_left _ (List.mem_append_right _ h))) (by decide +kernel))) (goodIn_sub (fun _ h => List.mem_append_right _ h) (by decide +kernel))) (goodIn_sub (fun _ h => List.mem_append_left _ (List.mem_append_right _ h)) (by decide +kernel))
set_option maxRecDepth 20000 in
theorem gL_law_L_part : GoodIn wsL_law (va_wsS RL 122 yL_part wsL_part) := goodIn_app (goodIn_of _ (by decide +kernel)) ggL_law_L_part
set_option maxRecDepth 20000 in
theorem ggL_law_X5_part : GoodIn wsL_law wsX5_part := goodIn_r _ [551, 123, 95, 93, 358, 466, 467, 468, 5, 469, 124, 125, 126, 213, 214, 215, 216, 379, 380, 381, 382, 477, 478, 479, 480, 96, 359, 360, 361, 362, 363, 364, 365, 366, 367, 368, 369, 370, 371, 372, 373, 374, 375, 376, 377, 378, 99, 791, 792, 793, 794, 795, 796, 797, 798, 799, 800, 801, 802, 803, 804, 805, 806, 807, 808, 809, 810, 811, 812, 813, 814, 815, 816, 817, 818, 819, 820] (by decide +kernel) (by decide +kernel)
set_option maxRecDepth 20000 in
theorem gL_law_X5_part : GoodIn wsL_law (wsV RL 124 RX5 yX5_part wsX5_part) := goodIn_app (goodIn_of _ (by decide +kernel)) ggL_law_X5_part
set_option maxRecDepth 20000 in
theorem ggL_law_L_open : GoodIn wsL_law wsL_open := goodIn_ca (goodIn_ca (goodIn_ca (goodIn_r _ [554, 224, 109, 110, 555, 556, 557, 2, 558, 115, 116, 20, 16, 430, 431, 432, 433, 234, 235, 434, 435, 436, 19, 437, 302, 492, 493, 494, 495, 305, 306, 307, 308, 53, 161, 162, 338, 339, 340, 341, 51, 438, 439, 440, 441, 442, 443, 444, 445, 52, 447, 257, 258, 15, 259, 35, 298, 299, 300, 301, 303, 304, 559, 560, 561, 562, 58, 326, 327, 328, 57, 329, 330, 331, 332, 333, 503, 451, 452, 453, 510, 511, 512, 513, 292, 293, 563, 564, 565, 566, 567, 455, 456, 457, 458, 459, 460, 461, 313, 314, 315, 316, 514, 310, 311, 312, 342, 343, 344, 345, 346, 347, 348, 349, 62, 63, 350, 351, 352, 353, 317, 318, 319, 320, 54, 321, 322, 323, 324, 325, 154, 155, 156, 334, 335, 336, 337, 141, 142, 143, 144, 145, 180, 181, 182, 183, 117, 118, 184, 185, 186, 187, 188, 189, 190, 40, 34, 36, 39, 171, 172, 173, 784, 785, 786, 787, 788, 789, 790, 835, 836, 837, 838, 839, 840, 841, 842, 821, 822, 823, 824, 825, 826, 827, 828, 829, 830, 831, 832, 833, 834, 850, 851, 852, 853, 854, 855] (by decide +kernel) (by decide +kernel)) (goodIn_sub (fun _ h => List.mem_append_left _ (List.mem_append_left _ (List.mem_append_right _ h))) (by decide +kernel))) (goodIn_sub (fun _ h => List.mem_append_right _ h) (by decide +kernel))) (goodIn_sub (fun _ h => List.mem_append_left _ (List.mem_append_right _ h)) (by decide +kernel))
set_option maxRecDepth 20000 in
theorem gL_law_L_open : GoodIn wsL_law (va_wsS RL 125 yL_open wsL_open) := goodIn_app (goodIn_of _ (by decide +kernel)) ggL_law_L_open
set_option maxRecDepth 20000 in
theorem ggL_law_X5_open : GoodIn wsL_law wsX5_open := goodIn_r _ [571, 123, 95, 93, 83, 358, 99, 96, 466, 467, 468, 5, 469, 124, 125, 126, 213, 214, 215, 216, 470, 471, 472, 473, 474, 475, 476, 477, 478, 479, 480, 359, 360, 361, 362, 379, 380, 381, 382, 363, 364, 365, 366, 367, 368, 369, 370, 371, 372, 373, 374, 375, 376, 377, 378, 791, 792, 793, 794, 795, 796, 797, 798, 799, 800, 801, 802, 803, 804, 805, 806, 807, 808, 809, 810, 811, 812, 813, 814, 815, 816, 817, 818, 819, 820] (by decide +kernel) (by decide +kernel)
set_option maxRecDepth 20000 in
theorem gL_law_X5_open : GoodIn wsL_law (wsV RL 127 RX5 yX5_open wsX5_open) := goodIn_app (goodIn_of _ (by decide +kernel)) ggL_law_X5_open
set_option maxRecDepth 20000 in
theorem ggL_law_L_put : GoodIn wsL_law wsL_put := goodIn_ca (goodIn_ca (goodIn_ca (goodIn_r _ [574, 224, 109, 110, 575, 576, 577, 2, 578, 115, 116, 20, 16, 430, 431, 432, 433, 234, 235, 434, 435, 436, 19, 437, 302, 488, 489, 490, 491, 492, 493, 494, 495, 305, 306, 307, 308, 53, 161, 162, 338, 339, 340, 341, 51, 496, 497, 498, 438, 439, 440, 441, 442, 443, 444, 445, 52, 298, 299, 300, 301, 303, 304, 579, 580, 581, 582, 503, 451, 452, 453, 504, 505, 506, 507, 508, 509, 563, 564, 565, 566, 567, 455, 456, 457, 458, 459, 460, 461, 313, 314, 315, 316, 514, 310, 311, 312, 317, 318, 319, 320, 54, 321, 322, 323, 324, 58, 325, 154, 155, 156, 326, 327, 328, 57, 329, 330, 331, 332, 333, 334, 335, 336, 337, 342, 343, 344, 345, 346, 347, 348, 349, 62, 63, 350, 351, 352, 353, 141, 142, 143, 15, 144, 145, 180, 181, 182, 183, 117, 118, 184, 185, 186, 187, 188, 189, 190, 40, 34, 35, 36, 39, 171, 172, 173, 784, 785, 786, 787, 788, 789, 790, 835, 836, 837, 838, 839, 840, 841, 842, 850, 851, 852, 853, 854, 855, 821, 822, 823, 824, 825, 826, 827, 828, 829, 830, 831, 832, 833, 834] (by decide +kernel) (by decide +kernel)) (goodIn_sub (fun _ h => List.mem_append_left _ (List.mem_append_left _ (List.mem_append_right _ h))) (by decide +kernel))) (goodIn_sub (fun _ h => List.mem_append_right _ h) (by decide +kernel))) (goodIn_sub (fun _ h => List.mem_append_left _ (List.mem_append_right _ h)) (by decide +kernel))
set_option maxRecDepth 20000 in
theorem gL_law_L_put : GoodIn wsL_law (va_wsS RL 128 yL_put wsL_put) := goodIn_app (goodIn_of _ (by decide +kernel)) ggL_law_L_put
set_option maxRecDepth 20000 in
theorem ggL_law_X5_put : GoodIn wsL_law wsX5_put := goodIn_r _ [586, 123, 95, 93, 358, 96, 466, 467, 468, 5, 469, 124, 125, 126, 213, 214, 215, 216, 519, 520, 521, 522, 523, 524, 525, 526, 470, 471, 472, 473, 474, 475, 476, 527, 528, 529, 530, 477, 478, 479, 480, 359, 360, 361, 362, 363, 364, 365, 366, 367, 368, 369, 370, 371, 372, 373, 374, 375, 376, 377, 378, 99, 379, 380, 381, 382, 791, 792, 793, 794, 795, 796, 797, 798, 799, 800, 801, 802, 803, 804, 805, 806, 807, 808, 809, 810, 811, 812, 813, 814, 815, 816, 817, 818, 819, 820] (by decide +kernel) (by decide +kernel)
set_option maxRecDepth 20000 in
theorem gL_law_X5_put : GoodIn wsL_law (wsV RL 130 RX5 yX5_put wsX5_put) := goodIn_app (goodIn_of _ (by decide +kernel)) ggL_law_X5_put
set_option maxRecDepth 20000 in
theorem ggL_law_L_retype : GoodIn wsL_law wsL_retype := goodIn_ca (goodIn_ca (goodIn_ca (goodIn_r _ [589, 224, 109, 110, 590, 591, 592, 2, 593, 16, 20, 430, 431, 432, 433, 234, 235, 434, 435, 436, 19, 437, 302, 230, 231, 232, 233, 236, 237, 238, 15, 239, 178, 43, 161, 162, 138, 139, 140, 115, 116, 141, 142, 143, 144, 145, 390, 391, 392, 393, 394, 146, 147, 148, 594, 168, 169, 170, 40, 34, 35, 36, 39, 171, 172, 173, 595, 408, 409, 410, 41, 42, 298, 299, 300, 301, 303, 304, 305, 306, 307, 308, 53, 596, 597, 598, 599, 503, 451, 452, 453, 442, 443, 444, 445, 52, 600, 601, 602, 603, 604, 605, 606, 607, 403, 404, 405, 406, 256, 257, 258, 259, 608, 609, 610, 407, 611, 260, 261, 262, 263, 264, 265, 266, 267, 612, 150, 151, 152, 153, 154, 155, 156, 37, 38, 157, 158, 159, 160, 163, 164, 165, 166, 167, 338, 339, 340, 341, 51, 514, 310, 311, 312, 313, 314, 315, 316, 317, 318, 319, 320, 54, 321, 322, 323, 324, 58, 325, 326, 327, 328, 57, 329, 330, 331, 332, 333, 334, 335, 336, 337, 342, 343, 344, 345, 346, 347, 348, 349, 62, 63, 350, 351, 352, 353, 180, 181, 182, 183, 117, 118, 184, 185, 186, 187, 188, 189, 190, 784, 785, 786, 787, 788, 789, 790, 835, 836, 837, 838, 839, 840, 841, 842, 821, 822, 823, 824, 825, 826, 827, 828, 829, 830, 831, 832, 833, 834, 850, 851, 852, 853, 854, 855] (by decide +kernel) (by decide +kernel)) (goodIn_sub (fun _ h => List.mem_append_right _ h) (by decide +kernel))) (goodIn_sub (fun _ h => List.mem_append_left _ (List.mem_append_left _ (List.mem_append_right _ h))) (by decide +kernel))) (goodIn_sub (fun _ h => List.mem_append_left _ (List.mem_append_right _ h)) (by decide +kernel))
set_option maxRecDepth 20000 in
theorem gL_law_L_retype : GoodIn wsL_law (va_wsS RL 131 yL_retype wsL_retype) := goodIn_app (goodIn_of _ (by decide +kernel)) ggL_law_L_retype
set_option maxRecDepth 20000 in
theorem ggL_law_X5_retype : GoodIn wsL_law wsX5_retype := goodIn_r _ [616, 123, 208, 195, 89, 93, 358, 90, 96, 95, 466, 467, 468, 5, 469, 124, 125, 126, 213, 214, 215, 216, 617, 618, 619, 620, 92, 83, 84, 82, 196, 197, 198, 199, 88, 87, 85, 86, 200, 201, 202, 209, 210, 211, 212, 359, 360, 361, 362, 363, 364, 365, 366, 367, 368, 369, 370, 371, 372, 373, 374, 375, 376, 377, 378, 99, 379, 380, 381, 382, 217, 218, 219, 220, 791, 792, 793, 794, 795, 796, 797, 798, 799, 800, 801, 802, 803, 804, 805, 806, 807, 808, 809, 810, 811, 812, 813, 814, 815, 816, 817, 818, 819, 820] (by decide +kernel) (by decide +kernel)
set_option maxRecDepth 20000 in
theorem gL_law_X5_retype : GoodIn wsL_law (wsV RL 133 RX5 yX5_retype wsX5_retype) := goodIn_app (goodIn_of _ (by decide +kernel)) ggL_law_X5_retype
set_option maxRecDepth 20000 in
theorem ggL_law_L_typeOf : GoodIn wsL_law wsL_typeOf := goodIn_ca (goodIn_ca (goodIn_r _ [623, 224, 110, 624, 625, 626, 2, 627, 16, 20, 430, 431, 432, 433, 234, 235, 434, 435, 436, 19, 437, 302, 438, 439, 440, 441, 305, 306, 307, 308, 53, 161, 162, 442, 443, 444, 445, 52, 174, 175, 176, 15, 177, 178, 179, 43, 157, 158, 159, 160, 37, 141, 142, 143, 144, 145, 180, 181, 182, 183, 117, 118, 184, 185, 186, 187, 188, 189, 155, 190, 40, 34, 35, 36, 39, 171, 172, 173, 784, 785, 786, 787, 788, 789, 790, 835, 836, 837, 838, 839, 840, 841, 842, 821, 822, 823, 824, 825, 826, 827, 828, 829, 830, 831, 832, 833, 834] (by decide +kernel) (by decide +kernel)) (goodIn_sub (fun _ h => List.mem_append_right _ h) (by decide +kernel))) (goodIn_sub (fun _ h => List.mem_append_left _ (List.mem_append_right _ h)) (by decide +kernel))
set_option maxRecDepth 20000 in
theorem gL_law_L_typeOf : GoodIn wsL_law (va_wsS RL 134 yL_typeOf wsL_typeOf) := goodIn_app (goodIn_of _ (by decide +kernel)) ggL_law_L_typeOf
set_option maxRecDepth 20000 in
theorem ggL_law_X5_typeOf : GoodIn wsL_law wsX5_typeOf := goodIn_r _ [631, 123, 466, 467, 468, 5, 469, 358, 124, 125, 126, 470, 471, 472, 473, 96, 93, 203, 204, 205, 206, 195, 207, 85, 89, 208, 209, 210, 211, 212, 86, 213, 214, 215, 216, 791, 792, 793, 794, 795, 796, 797, 798, 799, 800, 801, 802, 803, 804, 805, 806, 807, 808, 809, 810, 811, 812, 813, 814, 815, 816, 817, 818, 819, 820] (by decide +kernel) (by decide +kernel)
set_option maxRecDepth 20000 in
theorem gL_law_X5_typeOf : GoodIn wsL_law (wsV RL 136 RX5 yX5_typeOf wsX5_typeOf) := goodIn_app (goodIn_of _ (by decide +kernel)) ggL_law_X5_typeOf
set_option maxRecDepth 20000 in
theorem ggL_law_L_symbol : GoodIn wsL_law wsL_symbol := goodIn_ca (goodIn_r _ [634, 224, 635, 636, 637, 2, 638, 234, 235, 20, 430, 431, 432, 433, 434, 435, 436, 19, 437, 302, 639, 640, 641, 642, 503, 451, 452, 453, 53, 161, 162, 305, 306, 307, 308, 449, 643, 339, 340, 341, 51, 784, 785, 786, 787, 788, 789, 790, 835, 836, 837, 838, 839, 840, 841, 842] (by decide +kernel) (by decide +kernel)) (goodIn_sub (fun _ h => List.mem_append_right _ h) (by decide +kernel))
set_option maxRecDepth 20000 in
theorem gL_law_L_symbol : GoodIn wsL_law (va_wsS RL 137 yL_symbol wsL_symbol) := goodIn_app (goodIn_of _ (by decide +kernel)) ggL_law_L_symbol
set_option maxRecDepth 20000 in
theorem ggL_law_X5_symbol : GoodIn wsL_law wsX5_symbol := goodIn_r _ [647, 123, 95, 93, 466, 467, 468, 5, 469, 358, 124, 125, 126, 523, 524, 525, 526, 791, 792, 793, 794, 795, 796, 797, 798, 799, 800, 801, 802, 803, 804, 805, 806, 807, 808, 809, 810, 811, 812, 813, 814, 815, 816, 817, 818, 819, 820] (by decide +kernel) (by decide +kernel)
set_option maxRecDepth 20000 in
theorem gL_law_X5_symbol : GoodIn wsL_law (wsV RL 139 RX5 yX5_symbol wsX5_symbol) := goodIn_app (goodIn_of _ (by decide +kernel)) ggL_law_X5_symbol
set_option maxRecDepth 20000 in
theorem ggL_law_L_measure : GoodIn wsL_law wsL_measure := goodIn_ca (goodIn_ca (goodIn_r _ [650, 224, 109, 651, 652, 653, 2, 654, 115, 116, 20, 430, 431, 432, 433, 234, 235, 434, 435, 436, 19, 437, 302, 639, 640, 641, 642, 503, 451, 452, 453, 53, 161, 162, 305, 306, 307, 308, 655, 656, 657, 658, 54, 784, 785, 786, 787, 788, 789, 790, 835, 836, 837, 838, 839, 840, 841, 842] (by decide +kernel) (by decide +kernel)) (goodIn_sub (fun _ h => List.mem_append_left _ (List.mem_append_left _ (List.mem_append_right _ h))) (by decide +kernel))) (goodIn_sub (fun _ h => List.mem_append_right _ h) (by decide +kernel))
set_option maxRecDepth 20000 in
theorem gL_law_L_measure : GoodIn wsL_law (va_wsS RL 140 yL_measure wsL_measure) := goodIn_app (goodIn_of _ (by decide +kernel)) ggL_law_L_measure
set_option maxRecDepth 20000 in
theorem ggL_law_X5_measure : GoodIn wsL_law wsX5_measure := goodIn_r _ [662, 123, 93, 466, 467, 468, 5, 469, 358, 124, 125, 126, 523, 524, 525, 526, 375, 376, 377, 378, 99, 95, 379, 380, 381, 382, 791, 792, 793, 794, 795, 796, 797, 798, 799, 800, 801, 802, 803, 804, 805, 806, 807, 808, 809, 810, 811, 812, 813, 814, 815, 816, 817, 818, 819, 820] (by decide +kernel) (by decide +kernel)
set_option maxRecDepth 20000 in
theorem gL_law_X5_measure : GoodIn wsL_law (wsV RL 142 RX5 yX5_measure wsX5_measure) := goodIn_app (goodIn_of _ (by decide +kernel)) ggL_law_X5_measure
set_option maxRecDepth 20000 in
theorem ggL_law_L_same : GoodIn wsL_law wsL_same := goodIn_ca (goodIn_r _ [665, 224, 666, 667, 668, 2, 669, 20, 430, 431, 432, 433, 234, 235, 434, 435, 436, 19, 437, 302, 449, 306, 307, 308, 53, 161, 162, 450, 451, 452, 453, 670, 671, 672, 673, 338, 339, 340, 341, 51, 442, 443, 444, 445, 52, 784, 785, 786, 787, 788, 789, 790, 835, 836, 837, 838, 839, 840, 841, 842] (by decide +kernel) (by decide +kernel)) (goodIn_sub (fun _ h => List.mem_append_right _ h) (by decide +kernel))
set_option maxRecDepth 20000 in
theorem gL_law_L_same : GoodIn wsL_law (va_wsS RL 143 yL_same wsL_same) := goodIn_app (goodIn_of _ (by decide +kernel)) ggL_law_L_same
set_option maxRecDepth 20000 in
theorem ggL_law_X5_same : GoodIn wsL_law wsX5_same := goodIn_r _ [677, 123, 93, 466, 467, 468, 5, 469, 358, 124, 125, 126, 523, 524, 525, 526, 678, 679, 680, 681, 95, 96, 474, 475, 476, 791, 792, 793, 794, 795, 796, 797, 798, 799, 800, 801, 802, 803, 804, 805, 806, 807, 808, 809, 810, 811, 812, 813, 814, 815, 816, 817, 818, 819, 820] (by decide +kernel) (by decide +kernel)
set_option maxRecDepth 20000 in
theorem gL_law_X5_same : GoodIn wsL_law (wsV RL 145 RX5 yX5_same wsX5_same) := goodIn_app (goodIn_of _ (by decide +kernel)) ggL_law_X5_same
set_option maxRecDepth 20000 in
theorem ggL_law_L_sameType : GoodIn wsL_law wsL_sameType := goodIn_ca (goodIn_r _ [684, 224, 685, 686, 687, 2, 688, 230, 231, 232, 233, 234, 235, 16, 236, 237, 238, 15, 239, 178, 43, 161, 162, 784, 785, 786, 787, 788, 789, 790, 821, 822, 823, 824, 825, 826, 827, 828, 829, 830, 831, 832, 833, 834] (by decide +kernel) (by decide +kernel)) (goodIn_sub (fun _ h => List.mem_append_right _ h) (by decide +kernel))
set_option maxRecDepth 20000 in
theorem gL_law_L_sameType : GoodIn wsL_law (va_wsS RL 146 yL_sameType wsL_sameType) := goodIn_app (goodIn_of _ (by decide +kernel)) ggL_law_L_sameType
set_option maxRecDepth 20000 in
theorem ggL_law_X5_sameType : GoodIn wsL_law wsX5_sameType := goodIn_r _ [692, 208, 123, 89, 124, 125, 5, 126, 474, 475, 476, 791, 792, 793, 794, 795, 796, 797, 798, 799, 800, 801, 802, 803, 804, 805, 806, 807, 808, 809, 810, 811, 812, 813, 814, 815, 816, 817, 818, 819, 820] (by decide +kernel) (by decide +kernel)
set_option maxRecDepth 20000 in
theorem gL_law_X5_sameType : GoodIn wsL_law (wsV RL 148 RX5 yX5_sameType wsX5_sameType) := goodIn_app (goodIn_of _ (by decide +kernel)) ggL_law_X5_sameType
set_option maxRecDepth 20000 in
theorem ggL_law_L_occurs : GoodIn wsL_law wsL_occurs := goodIn_ca (goodIn_ca (goodIn_r _ [695, 224, 109, 696, 697, 698, 2, 699, 20, 430, 431, 432, 433, 234, 235, 434, 435, 436, 19, 437, 302, 488, 489, 490, 491, 115, 116, 492, 493, 494, 495, 305, 306, 307, 308, 53, 161, 162, 338, 339, 340, 341, 51, 496, 497, 498, 700, 701, 702, 703, 503, 451, 452, 453, 504, 505, 506, 507, 508, 442, 443, 444, 445, 52, 509, 439, 440, 441, 784, 785, 786, 787, 788, 789, 790, 835, 836, 837, 838, 839, 840, 841, 842] (by decide +kernel) (by decide +kernel)) (goodIn_sub (fun _ h => List.mem_append_right _ h) (by decide +kernel))) (goodIn_sub (fun _ h => List.mem_append_left _ (List.mem_append_left _ (List.mem_append_right _ h))) (by decide +kernel))
set_option maxRecDepth 20000 in
theorem gL_law_L_occurs : GoodIn wsL_law (va_wsS RL 149 yL_occurs wsL_occurs) := goodIn_app (goodIn_of _ (by decide +kernel)) ggL_law_L_occurs
set_option maxRecDepth 20000 in
theorem ggL_law_X5_occurs : GoodIn wsL_law wsX5_occurs := goodIn_r _ [707, 123, 93, 95, 466, 467, 468, 5, 469, 358, 124, 125, 126, 519, 520, 521, 522, 523, 524, 525, 526, 470, 471, 472, 473, 96, 527, 528, 529, 530, 474, 475, 476, 791, 792, 793, 794, 795, 796, 797, 798, 799, 800, 801, 802, 803, 804, 805, 806, 807, 808, 809, 810, 811, 812, 813, 814, 815, 816, 817, 818, 819, 820] (by decide +kernel) (by decide +kernel)
set_option maxRecDepth 20000 in
theorem gL_law_X5_occurs : GoodIn wsL_law (wsV RL 151 RX5 yX5_occurs wsX5_occurs) := goodIn_app (goodIn_of _ (by decide +kernel)) ggL_law_X5_occurs
set_option maxRecDepth 20000 in
theorem ggL_law_L_match : GoodIn wsL_law wsL_match := goodIn_ca (goodIn_r _ [710, 224, 711, 712, 713, 2, 714, 24, 16, 430, 431, 432, 433, 234, 235, 20, 434, 435, 436, 19, 437, 302, 715, 716, 717, 23, 718, 719, 68, 720, 721, 722, 723, 73, 542, 543, 390, 391, 392, 15, 393, 394, 724, 725, 726, 727, 449, 306, 307, 308, 53, 161, 162, 450, 451, 452, 453, 728, 729, 730, 731, 643, 339, 340, 341, 51, 496, 497, 498, 732, 733, 734, 735, 538, 539, 540, 541, 58, 326, 327, 328, 57, 329, 330, 331, 332, 333, 305, 338, 510, 511, 512, 513, 342, 343, 344, 345, 346, 347, 348, 349, 62, 63, 350, 351, 352, 353, 544, 545, 546, 547, 736, 443, 444, 445, 52, 737, 738, 739, 740, 69, 72, 741, 742, 743, 744, 70, 745, 746, 747, 748, 71, 670, 671, 672, 673, 442, 395, 396, 397, 398, 399, 400, 401, 402, 41, 403, 404, 405, 406, 42, 264, 265, 266, 267, 34, 256, 257, 258, 259, 35, 260, 261, 262, 263, 36, 407, 408, 409, 410, 749, 750, 751, 752, 447, 753, 754, 755, 756, 784, 785, 786, 787, 788, 789, 790, 835, 836, 837, 838, 839, 840, 841, 842, 843, 844, 845, 846, 847, 848, 849, 821, 822, 823, 824, 825, 826, 827, 828, 829, 830, 831, 832, 833, 834, 850, 851, 852, 853, 854, 855] (by decide +kernel) (by decide +kernel)) (goodIn_sub (fun _ h => List.mem_append_right _ h) (by decide +kernel))
set_option maxRecDepth 20000 in
theorem gL_law_L_match : GoodIn wsL_law (va_wsS RL 152 yL_match wsL_match) := goodIn_app (goodIn_of _ (by decide +kernel)) ggL_law_L_match
set_option maxRecDepth 20000 in
theorem ggL_law_X5_match : GoodIn wsL_law wsX5_match := goodIn_r _ [760, 123, 101, 93, 95, 466, 467, 468, 5, 469, 358, 124, 125, 126, 415, 416, 417, 418, 100, 379, 380, 381, 382, 761, 762, 763, 764, 96, 102, 104, 103, 419, 420, 421, 422, 97, 98, 82, 84, 83, 765, 766, 767, 768, 99, 527, 528, 529, 530, 474, 475, 476, 678, 679, 680, 681, 769, 770, 771, 772, 791, 792, 793, 794, 795, 796, 797, 798, 799, 800, 801, 802, 803, 804, 805, 806, 807, 808, 809, 810, 811, 812, 813, 814, 815, 816, 817, 818, 819, 820] (by decide +kernel) (by decide +kernel)
set_option maxRecDepth 20000 in
theorem gL_law_X5_match : GoodIn wsL_law (wsV RL 154 RX5 yX5_match wsX5_match) := goodIn_app (goodIn_of _ (by decide +kernel)) ggL_law_X5_match
set_option maxRecDepth 20000 in
theorem ggL_law_L_matched : GoodIn wsL_law wsL_matched := goodIn_ca (goodIn_ca (goodIn_r _ [775, 224, 110, 776, 777, 778, 2, 779, 234, 235, 24, 20, 16, 753, 754, 755, 23, 756, 719, 298, 299, 300, 19, 301, 302, 303, 304, 305, 306, 307, 308, 53, 161, 162, 741, 742, 743, 744, 70, 745, 746, 747, 748, 71, 454, 455, 456, 457, 51, 458, 459, 460, 461, 52, 313, 314, 315, 316, 317, 318, 319, 320, 54, 321, 322, 323, 324, 58, 325, 154, 155, 156, 326, 327, 328, 57, 329, 330, 331, 332, 333, 334, 335, 336, 337, 338, 339, 340, 341, 342, 343, 344, 345, 346, 347, 348, 349, 62, 63, 350, 351, 352, 353, 141, 142, 143, 15, 144, 145, 180, 181, 182, 183, 117, 118, 184, 185, 186, 187, 188, 189, 190, 40, 34, 35, 36, 39, 171, 172, 173, 784, 785, 786, 787, 788, 789, 790, 843, 844, 845, 846, 847, 848, 849, 835, 836, 837, 838, 839, 840, 841, 842, 850, 851, 852, 853, 854, 855, 821, 822, 823, 824, 825, 826, 827, 828, 829, 830, 831, 832, 833, 834] (by decide +kernel) (by decide +kernel)) (goodIn_sub (fun _ h => List.mem_append_right _ h) (by decide +kernel))) (goodIn_sub (fun _ h => List.mem_append_left _ (List.mem_append_right _ h)) (by decide +kernel))
set_option maxRecDepth 20000 in
theorem gL_law_L_matched : GoodIn wsL_law (va_wsS RL 155 yL_matched wsL_matched) := goodIn_app (goodIn_of _ (by decide +kernel)) ggL_law_L_matched
set_option maxRecDepth 20000 in
theorem ggL_law_X5_matched : GoodIn wsL_law wsX5_matched := goodIn_r _ [783, 101, 123, 93, 358, 103, 104, 124, 125, 5, 126, 477, 478, 479, 480, 95, 96, 359, 360, 361, 362, 363, 364, 365, 366, 367, 368, 369, 370, 213, 214, 215, 216, 371, 372, 373, 374, 375, 376, 377, 378, 99, 379, 380, 381, 382, 791, 792, 793, 794, 795, 796, 797, 798, 799, 800, 801, 802, 803, 804, 805, 806, 807, 808, 809, 810, 811, 812, 813, 814, 815, 816, 817, 818, 819, 820] (by decide +kernel) (by decide +kernel)
set_option maxRecDepth 20000 in
theorem gL_law_X5_matched : GoodIn wsL_law (wsV RL 157 RX5 yX5_matched wsX5_matched) := goodIn_app (goodIn_of _ (by decide +kernel)) ggL_law_X5_matched
theorem dL_law_0 : decode cL_law 0 = .ok (.new 8, 3) := by decide +kernel
theorem dL_law_3 : decode cL_law 3 = .ok (.dup, 1) := by decide +kernel
theorem dL_law_4 : decode cL_law 4 = .ok (.invokespecial 82, 3) := by decide +kernel
theorem dL_law_7 : decode cL_law 7 = .ok (.astore_n 1, 1) := by decide +kernel
theorem dL_law_8 : decode cL_law 8 = .ok (.new 83, 3) := by decide +kernel
theorem dL_law_11 : decode cL_law 11 = .ok (.dup, 1) := by decide +kernel
theorem dL_law_12 : decode cL_law 12 = .ok (.invokespecial 85, 3) := by decide +kernel
theorem dL_law_15 : decode cL_law 15 = .ok (.astore_n 2, 1) := by decide +kernel
theorem dL_law_16 : decode cL_law 16 = .ok (.iconst 1, 1) := by decide +kernel
theorem dL_law_17 : decode cL_law 17 = .ok (.newarray .long, 2) := by decide +kernel
theorem dL_law_19 : decode cL_law 19 = .ok (.astore_n 3, 1) := by decide +kernel
theorem dL_law_20 : decode cL_law 20 = .ok (.iconst 0, 1) := by decide +kernel
theorem dL_law_21 : decode cL_law 21 = .ok (.istore 4, 2) := by decide +kernel
theorem dL_law_23 : decode cL_law 23 = .ok (.iload 4, 2) := by decide +kernel
theorem dL_law_25 : decode cL_law 25 = .ok (.aload_n 0, 1) := by decide +kernel
theorem dL_law_26 : decode cL_law 26 = .ok (.arraylength, 1) := by decide +kernel
theorem dL_law_27 : decode cL_law 27 = .ok (.iconst 4, 1) := by decide +kernel
theorem dL_law_28 : decode cL_law 28 = .ok (.isub, 1) := by decide +kernel
theorem dL_law_29 : decode cL_law 29 = .ok (.if_icmp .gt 1538, 3) := by decide +kernel
theorem dL_law_32 : decode cL_law 32 = .ok (.aload_n 0, 1) := by decide +kernel
theorem dL_law_33 : decode cL_law 33 = .ok (.iload 4, 2) := by decide +kernel
theorem dL_law_35 : decode cL_law 35 = .ok (.iaload, 1) := by decide +kernel
theorem dL_law_36 : decode cL_law 36 = .ok (.bipush 31, 2) := by decide +kernel
theorem dL_law_38 : decode cL_law 38 = .ok (.iand, 1) := by decide +kernel
theorem dL_law_39 : decode cL_law 39 = .ok (.tableswitch 1522 0 20 #[97, 153, 209, 289, 357, 413, 481, 549, 617, 685, 753, 821, 901, 981, 1037, 1105, 1173, 1248, 1323, 1398, 1466], 97) := by decide +kernel
theorem dL_law_136 : decode cL_law 136 = .ok (.aload_n 1, 1) := by decide +kernel
theorem dL_law_137 : decode cL_law 137 = .ok (.aload_n 0, 1) := by decide +kernel
theorem dL_law_138 : decode cL_law 138 = .ok (.iload 4, 2) := by decide +kernel
theorem dL_law_140 : decode cL_law 140 = .ok (.iconst 1, 1) := by decide +kernel
theorem dL_law_141 : decode cL_law 141 = .ok (.iadd, 1) := by decide +kernel
theorem dL_law_142 : decode cL_law 142 = .ok (.iaload, 1) := by decide +kernel
theorem dL_law_143 : decode cL_law 143 = .ok (.aload_n 3, 1) := by decide +kernel
theorem dL_law_144 : decode cL_law 144 = .ok (.invokestatic 86, 3) := by decide +kernel
theorem dL_law_147 : decode cL_law 147 = .ok (.istore 5, 2) := by decide +kernel
theorem dL_law_149 : decode cL_law 149 = .ok (.aload_n 2, 1) := by decide +kernel
theorem dL_law_150 : decode cL_law 150 = .ok (.aload_n 0, 1) := by decide +kernel
theorem dL_law_151 : decode cL_law 151 = .ok (.iload 4, 2) := by decide +kernel
theorem dL_law_153 : decode cL_law 153 = .ok (.iconst 1, 1) := by decide +kernel
theorem dL_law_154 : decode cL_law 154 = .ok (.iadd, 1) := by decide +kernel
theorem dL_law_155 : decode cL_law 155 = .ok (.iaload, 1) := by decide +kernel
theorem dL_law_156 : decode cL_law 156 = .ok (.invokevirtual 91, 3) := by decide +kernel
theorem dL_law_159 : decode cL_law 159 = .ok (.istore 6, 2) := by decide +kernel
theorem dL_law_161 : decode cL_law 161 = .ok (.aload_n 2, 1) := by decide +kernel
theorem dL_law_162 : decode cL_law 162 = .ok (.invokevirtual 92, 3) := by decide +kernel
theorem dL_law_165 : decode cL_law 165 = .ok (.iload 5, 2) := by decide +kernel
theorem dL_law_167 : decode cL_law 167 = .ok (.if_icmp .eq 5, 3) := by decide +kernel
theorem dL_law_170 : decode cL_law 170 = .ok (.iconst 0, 1) := by decide +kernel
theorem dL_law_171 : decode cL_law 171 = .ok (.ireturn, 1) := by decide +kernel
theorem dL_law_172 : decode cL_law 172 = .ok (.iload 5, 2) := by decide +kernel
theorem dL_law_174 : decode cL_law 174 = .ok (.ifCond .ne 15, 3) := by decide +kernel
theorem dL_law_177 : decode cL_law 177 = .ok (.aload_n 3, 1) := by decide +kernel
theorem dL_law_178 : decode cL_law 178 = .ok (.iconst 0, 1) := by decide +kernel
theorem dL_law_179 : decode cL_law 179 = .ok (.laload, 1) := by decide +kernel
theorem dL_law_180 : decode cL_law 180 = .ok (.iload 6, 2) := by decide +kernel
theorem dL_law_182 : decode cL_law 182 = .ok (.i2l, 1) := by decide +kernel
theorem dL_law_183 : decode cL_law 183 = .ok (.lcmp, 1) := by decide +kernel
theorem dL_law_184 : decode cL_law 184 = .ok (.ifCond .eq 5, 3) := by decide +kernel
theorem dL_law_187 : decode cL_law 187 = .ok (.iconst 0, 1) := by decide +kernel
theorem dL_law_188 : decode cL_law 188 = .ok (.ireturn, 1) := by decide +kernel
theorem dL_law_189 : decode cL_law 189 = .ok (.goto 1372, 3) := by decide +kernel
theorem dL_law_192 : decode cL_law 192 = .ok (.aload_n 1, 1) := by decide +kernel
theorem dL_law_193 : decode cL_law 193 = .ok (.aload_n 0, 1) := by decide +kernel
theorem dL_law_194 : decode cL_law 194 = .ok (.iload 4, 2) := by decide +kernel
theorem dL_law_196 : decode cL_law 196 = .ok (.iconst 1, 1) := by decide +kernel
theorem dL_law_197 : decode cL_law 197 = .ok (.iadd, 1) := by decide +kernel
theorem dL_law_198 : decode cL_law 198 = .ok (.iaload, 1) := by decide +kernel
theorem dL_law_199 : decode cL_law 199 = .ok (.aload_n 3, 1) := by decide +kernel
theorem dL_law_200 : decode cL_law 200 = .ok (.invokestatic 96, 3) := by decide +kernel
theorem dL_law_203 : decode cL_law 203 = .ok (.istore 5, 2) := by decide +kernel
theorem dL_law_205 : decode cL_law 205 = .ok (.aload_n 2, 1) := by decide +kernel
theorem dL_law_206 : decode cL_law 206 = .ok (.aload_n 0, 1) := by decide +kernel
theorem dL_law_207 : decode cL_law 207 = .ok (.iload 4, 2) := by decide +kernel
theorem dL_law_209 : decode cL_law 209 = .ok (.iconst 1, 1) := by decide +kernel
theorem dL_law_210 : decode cL_law 210 = .ok (.iadd, 1) := by decide +kernel
theorem dL_law_211 : decode cL_law 211 = .ok (.iaload, 1) := by decide +kernel
theorem dL_law_212 : decode cL_law 212 = .ok (.invokevirtual 98, 3) := by decide +kernel
theorem dL_law_215 : decode cL_law 215 = .ok (.istore 6, 2) := by decide +kernel
theorem dL_law_217 : decode cL_law 217 = .ok (.aload_n 2, 1) := by decide +kernel
theorem dL_law_218 : decode cL_law 218 = .ok (.invokevirtual 92, 3) := by decide +kernel
theorem dL_law_221 : decode cL_law 221 = .ok (.iload 5, 2) := by decide +kernel
theorem dL_law_223 : decode cL_law 223 = .ok (.if_icmp .eq 5, 3) := by decide +kernel
theorem dL_law_226 : decode cL_law 226 = .ok (.iconst 0, 1) := by decide +kernel
theorem dL_law_227 : decode cL_law 227 = .ok (.ireturn, 1) := by decide +kernel
theorem dL_law_228 : decode cL_law 228 = .ok (.iload 5, 2) := by decide +kernel
theorem dL_law_230 : decode cL_law 230 = .ok (.ifCond .ne 15, 3) := by decide +kernel
theorem dL_law_233 : decode cL_law 233 = .ok (.aload_n 3, 1) := by decide +kernel
theorem dL_law_234 : decode cL_law 234 = .ok (.iconst 0, 1) := by decide +kernel
theorem dL_law_235 : decode cL_law 235 = .ok (.laload, 1) := by decide +kernel
theorem dL_law_236 : decode cL_law 236 = .ok (.iload 6, 2) := by decide +kernel
theorem dL_law_238 : decode cL_law 238 = .ok (.i2l, 1) := by decide +kernel
theorem dL_law_239 : decode cL_law 239 = .ok (.lcmp, 1) := by decide +kernel
theorem dL_law_240 : decode cL_law 240 = .ok (.ifCond .eq 5, 3) := by decide +kernel
theorem dL_law_243 : decode cL_law 243 = .ok (.iconst 0, 1) := by decide +kernel
theorem dL_law_244 : decode cL_law 244 = .ok (.ireturn, 1) := by decide +kernel
theorem dL_law_245 : decode cL_law 245 = .ok (.goto 1316, 3) := by decide +kernel
theorem dL_law_248 : decode cL_law 248 = .ok (.aload_n 1, 1) := by decide +kernel
theorem dL_law_249 : decode cL_law 249 = .ok (.aload_n 0, 1) := by decide +kernel
theorem dL_law_250 : decode cL_law 250 = .ok (.iload 4, 2) := by decide +kernel
theorem dL_law_252 : decode cL_law 252 = .ok (.iconst 1, 1) := by decide +kernel
theorem dL_law_253 : decode cL_law 253 = .ok (.iadd, 1) := by decide +kernel
theorem dL_law_254 : decode cL_law 254 = .ok (.iaload, 1) := by decide +kernel
theorem dL_law_255 : decode cL_law 255 = .ok (.aload_n 0, 1) := by decide +kernel
theorem dL_law_256 : decode cL_law 256 = .ok (.iload 4, 2) := by decide +kernel
theorem dL_law_258 : decode cL_law 258 = .ok (.iconst 2, 1) := by decide +kernel
theorem dL_law_259 : decode cL_law 259 = .ok (.iadd, 1) := by decide +kernel
theorem dL_law_260 : decode cL_law 260 = .ok (.iaload, 1) := by decide +kernel
theorem dL_law_261 : decode cL_law 261 = .ok (.aload_n 0, 1) := by decide +kernel
theorem dL_law_262 : decode cL_law 262 = .ok (.iload 4, 2) := by decide +kernel
theorem dL_law_264 : decode cL_law 264 = .ok (.iconst 3, 1) := by decide +kernel
theorem dL_law_265 : decode cL_law 265 = .ok (.iadd, 1) := by decide +kernel
theorem dL_law_266 : decode cL_law 266 = .ok (.iaload, 1) := by decide +kernel
theorem dL_law_267 : decode cL_law 267 = .ok (.aload_n 3, 1) := by decide +kernel
theorem dL_law_268 : decode cL_law 268 = .ok (.invokestatic 99, 3) := by decide +kernel
theorem dL_law_271 : decode cL_law 271 = .ok (.istore 5, 2) := by decide +kernel
theorem dL_law_273 : decode cL_law 273 = .ok (.aload_n 2, 1) := by decide +kernel
theorem dL_law_274 : decode cL_law 274 = .ok (.aload_n 0, 1) := by decide +kernel
theorem dL_law_275 : decode cL_law 275 = .ok (.iload 4, 2) := by decide +kernel
theorem dL_law_277 : decode cL_law 277 = .ok (.iconst 1, 1) := by decide +kernel
theorem dL_law_278 : decode cL_law 278 = .ok (.iadd, 1) := by decide +kernel
theorem dL_law_279 : decode cL_law 279 = .ok (.iaload, 1) := by decide +kernel
theorem dL_law_280 : decode cL_law 280 = .ok (.aload_n 0, 1) := by decide +kernel
theorem dL_law_281 : decode cL_law 281 = .ok (.iload 4, 2) := by decide +kernel
theorem dL_law_283 : decode cL_law 283 = .ok (.iconst 2, 1) := by decide +kernel
theorem dL_law_284 : decode cL_law 284 = .ok (.iadd, 1) := by decide +kernel
theorem dL_law_285 : decode cL_law 285 = .ok (.iaload, 1) := by decide +kernel
theorem dL_law_286 : decode cL_law 286 = .ok (.aload_n 0, 1) := by decide +kernel
theorem dL_law_287 : decode cL_law 287 = .ok (.iload 4, 2) := by decide +kernel
theorem dL_law_289 : decode cL_law 289 = .ok (.iconst 3, 1) := by decide +kernel
theorem dL_law_290 : decode cL_law 290 = .ok (.iadd, 1) := by decide +kernel
theorem dL_law_291 : decode cL_law 291 = .ok (.iaload, 1) := by decide +kernel
theorem dL_law_292 : decode cL_law 292 = .ok (.invokevirtual 102, 3) := by decide +kernel
theorem dL_law_295 : decode cL_law 295 = .ok (.istore 6, 2) := by decide +kernel
theorem dL_law_297 : decode cL_law 297 = .ok (.aload_n 2, 1) := by decide +kernel
theorem dL_law_298 : decode cL_law 298 = .ok (.invokevirtual 92, 3) := by decide +kernel
theorem dL_law_301 : decode cL_law 301 = .ok (.iload 5, 2) := by decide +kernel
theorem dL_law_303 : decode cL_law 303 = .ok (.if_icmp .eq 5, 3) := by decide +kernel
theorem dL_law_306 : decode cL_law 306 = .ok (.iconst 0, 1) := by decide +kernel
theorem dL_law_307 : decode cL_law 307 = .ok (.ireturn, 1) := by decide +kernel
theorem dL_law_308 : decode cL_law 308 = .ok (.iload 5, 2) := by decide +kernel
theorem dL_law_310 : decode cL_law 310 = .ok (.ifCond .ne 15, 3) := by decide +kernel
theorem dL_law_313 : decode cL_law 313 = .ok (.aload_n 3, 1) := by decide +kernel
theorem dL_law_314 : decode cL_law 314 = .ok (.iconst 0, 1) := by decide +kernel
theorem dL_law_315 : decode cL_law 315 = .ok (.laload, 1) := by decide +kernel
theorem dL_law_316 : decode cL_law 316 = .ok (.iload 6, 2) := by decide +kernel
theorem dL_law_318 : decode cL_law 318 = .ok (.i2l, 1) := by decide +kernel
theorem dL_law_319 : decode cL_law 319 = .ok (.lcmp, 1) := by decide +kernel
theorem dL_law_320 : decode cL_law 320 = .ok (.ifCond .eq 5, 3) := by decide +kernel
theorem dL_law_323 : decode cL_law 323 = .ok (.iconst 0, 1) := by decide +kernel
theorem dL_law_324 : decode cL_law 324 = .ok (.ireturn, 1) := by decide +kernel
theorem dL_law_325 : decode cL_law 325 = .ok (.goto 1236, 3) := by decide +kernel
theorem dL_law_328 : decode cL_law 328 = .ok (.aload_n 1, 1) := by decide +kernel
theorem dL_law_329 : decode cL_law 329 = .ok (.aload_n 0, 1) := by decide +kernel
theorem dL_law_330 : decode cL_law 330 = .ok (.iload 4, 2) := by decide +kernel
theorem dL_law_332 : decode cL_law 332 = .ok (.iconst 1, 1) := by decide +kernel
theorem dL_law_333 : decode cL_law 333 = .ok (.iadd, 1) := by decide +kernel
theorem dL_law_334 : decode cL_law 334 = .ok (.iaload, 1) := by decide +kernel
theorem dL_law_335 : decode cL_law 335 = .ok (.aload_n 0, 1) := by decide +kernel
theorem dL_law_336 : decode cL_law 336 = .ok (.iload 4, 2) := by decide +kernel
theorem dL_law_338 : decode cL_law 338 = .ok (.iconst 2, 1) := by decide +kernel
theorem dL_law_339 : decode cL_law 339 = .ok (.iadd, 1) := by decide +kernel
theorem dL_law_340 : decode cL_law 340 = .ok (.iaload, 1) := by decide +kernel
theorem dL_law_341 : decode cL_law 341 = .ok (.aload_n 3, 1) := by decide +kernel
theorem dL_law_342 : decode cL_law 342 = .ok (.invokestatic 103, 3) := by decide +kernel
theorem dL_law_345 : decode cL_law 345 = .ok (.istore 5, 2) := by decide +kernel
theorem dL_law_347 : decode cL_law 347 = .ok (.aload_n 2, 1) := by decide +kernel
theorem dL_law_348 : decode cL_law 348 = .ok (.aload_n 0, 1) := by decide +kernel
theorem dL_law_349 : decode cL_law 349 = .ok (.iload 4, 2) := by decide +kernel
theorem dL_law_351 : decode cL_law 351 = .ok (.iconst 1, 1) := by decide +kernel
theorem dL_law_352 : decode cL_law 352 = .ok (.iadd, 1) := by decide +kernel
theorem dL_law_353 : decode cL_law 353 = .ok (.iaload, 1) := by decide +kernel
theorem dL_law_354 : decode cL_law 354 = .ok (.aload_n 0, 1) := by decide +kernel
theorem dL_law_355 : decode cL_law 355 = .ok (.iload 4, 2) := by decide +kernel
theorem dL_law_357 : decode cL_law 357 = .ok (.iconst 2, 1) := by decide +kernel
theorem dL_law_358 : decode cL_law 358 = .ok (.iadd, 1) := by decide +kernel
theorem dL_law_359 : decode cL_law 359 = .ok (.iaload, 1) := by decide +kernel
theorem dL_law_360 : decode cL_law 360 = .ok (.invokevirtual 106, 3) := by decide +kernel
theorem dL_law_363 : decode cL_law 363 = .ok (.istore 6, 2) := by decide +kernel
theorem dL_law_365 : decode cL_law 365 = .ok (.aload_n 2, 1) := by decide +kernel
theorem dL_law_366 : decode cL_law 366 = .ok (.invokevirtual 92, 3) := by decide +kernel
theorem dL_law_369 : decode cL_law 369 = .ok (.iload 5, 2) := by decide +kernel
theorem dL_law_371 : decode cL_law 371 = .ok (.if_icmp .eq 5, 3) := by decide +kernel
theorem dL_law_374 : decode cL_law 374 = .ok (.iconst 0, 1) := by decide +kernel
theorem dL_law_375 : decode cL_law 375 = .ok (.ireturn, 1) := by decide +kernel
theorem dL_law_376 : decode cL_law 376 = .ok (.iload 5, 2) := by decide +kernel
theorem dL_law_378 : decode cL_law 378 = .ok (.ifCond .ne 15, 3) := by decide +kernel
theorem dL_law_381 : decode cL_law 381 = .ok (.aload_n 3, 1) := by decide +kernel
theorem dL_law_382 : decode cL_law 382 = .ok (.iconst 0, 1) := by decide +kernel
theorem dL_law_383 : decode cL_law 383 = .ok (.laload, 1) := by decide +kernel
theorem dL_law_384 : decode cL_law 384 = .ok (.iload 6, 2) := by decide +kernel
theorem dL_law_386 : decode cL_law 386 = .ok (.i2l, 1) := by decide +kernel
theorem dL_law_387 : decode cL_law 387 = .ok (.lcmp, 1) := by decide +kernel
theorem dL_law_388 : decode cL_law 388 = .ok (.ifCond .eq 5, 3) := by decide +kernel
theorem dL_law_391 : decode cL_law 391 = .ok (.iconst 0, 1) := by decide +kernel
theorem dL_law_392 : decode cL_law 392 = .ok (.ireturn, 1) := by decide +kernel
theorem dL_law_393 : decode cL_law 393 = .ok (.goto 1168, 3) := by decide +kernel
theorem dL_law_396 : decode cL_law 396 = .ok (.aload_n 1, 1) := by decide +kernel
theorem dL_law_397 : decode cL_law 397 = .ok (.aload_n 0, 1) := by decide +kernel
theorem dL_law_398 : decode cL_law 398 = .ok (.iload 4, 2) := by decide +kernel
theorem dL_law_400 : decode cL_law 400 = .ok (.iconst 1, 1) := by decide +kernel
theorem dL_law_401 : decode cL_law 401 = .ok (.iadd, 1) := by decide +kernel
theorem dL_law_402 : decode cL_law 402 = .ok (.iaload, 1) := by decide +kernel
theorem dL_law_403 : decode cL_law 403 = .ok (.aload_n 3, 1) := by decide +kernel
theorem dL_law_404 : decode cL_law 404 = .ok (.invokestatic 107, 3) := by decide +kernel
theorem dL_law_407 : decode cL_law 407 = .ok (.istore 5, 2) := by decide +kernel
theorem dL_law_409 : decode cL_law 409 = .ok (.aload_n 2, 1) := by decide +kernel
theorem dL_law_410 : decode cL_law 410 = .ok (.aload_n 0, 1) := by decide +kernel
theorem dL_law_411 : decode cL_law 411 = .ok (.iload 4, 2) := by decide +kernel
theorem dL_law_413 : decode cL_law 413 = .ok (.iconst 1, 1) := by decide +kernel
theorem dL_law_414 : decode cL_law 414 = .ok (.iadd, 1) := by decide +kernel
theorem dL_law_415 : decode cL_law 415 = .ok (.iaload, 1) := by decide +kernel
theorem dL_law_416 : decode cL_law 416 = .ok (.invokevirtual 109, 3) := by decide +kernel
theorem dL_law_419 : decode cL_law 419 = .ok (.istore 6, 2) := by decide +kernel
theorem dL_law_421 : decode cL_law 421 = .ok (.aload_n 2, 1) := by decide +kernel
theorem dL_law_422 : decode cL_law 422 = .ok (.invokevirtual 92, 3) := by decide +kernel
theorem dL_law_425 : decode cL_law 425 = .ok (.iload 5, 2) := by decide +kernel
theorem dL_law_427 : decode cL_law 427 = .ok (.if_icmp .eq 5, 3) := by decide +kernel
theorem dL_law_430 : decode cL_law 430 = .ok (.iconst 0, 1) := by decide +kernel
theorem dL_law_431 : decode cL_law 431 = .ok (.ireturn, 1) := by decide +kernel
theorem dL_law_432 : decode cL_law 432 = .ok (.iload 5, 2) := by decide +kernel
theorem dL_law_434 : decode cL_law 434 = .ok (.ifCond .ne 15, 3) := by decide +kernel
theorem dL_law_437 : decode cL_law 437 = .ok (.aload_n 3, 1) := by decide +kernel
theorem dL_law_438 : decode cL_law 438 = .ok (.iconst 0, 1) := by decide +kernel
theorem dL_law_439 : decode cL_law 439 = .ok (.laload, 1) := by decide +kernel
theorem dL_law_440 : decode cL_law 440 = .ok (.iload 6, 2) := by decide +kernel
theorem dL_law_442 : decode cL_law 442 = .ok (.i2l, 1) := by decide +kernel
theorem dL_law_443 : decode cL_law 443 = .ok (.lcmp, 1) := by decide +kernel
theorem dL_law_444 : decode cL_law 444 = .ok (.ifCond .eq 5, 3) := by decide +kernel
theorem dL_law_447 : decode cL_law 447 = .ok (.iconst 0, 1) := by decide +kernel
theorem dL_law_448 : decode cL_law 448 = .ok (.ireturn, 1) := by decide +kernel
theorem dL_law_449 : decode cL_law 449 = .ok (.goto 1112, 3) := by decide +kernel
theorem dL_law_452 : decode cL_law 452 = .ok (.aload_n 1, 1) := by decide +kernel
theorem dL_law_453 : decode cL_law 453 = .ok (.aload_n 0, 1) := by decide +kernel
theorem dL_law_454 : decode cL_law 454 = .ok (.iload 4, 2) := by decide +kernel
theorem dL_law_456 : decode cL_law 456 = .ok (.iconst 1, 1) := by decide +kernel
theorem dL_law_457 : decode cL_law 457 = .ok (.iadd, 1) := by decide +kernel
theorem dL_law_458 : decode cL_law 458 = .ok (.iaload, 1) := by decide +kernel
theorem dL_law_459 : decode cL_law 459 = .ok (.aload_n 0, 1) := by decide +kernel
theorem dL_law_460 : decode cL_law 460 = .ok (.iload 4, 2) := by decide +kernel
theorem dL_law_462 : decode cL_law 462 = .ok (.iconst 2, 1) := by decide +kernel
theorem dL_law_463 : decode cL_law 463 = .ok (.iadd, 1) := by decide +kernel
theorem dL_law_464 : decode cL_law 464 = .ok (.iaload, 1) := by decide +kernel
theorem dL_law_465 : decode cL_law 465 = .ok (.aload_n 3, 1) := by decide +kernel
theorem dL_law_466 : decode cL_law 466 = .ok (.invokestatic 110, 3) := by decide +kernel
theorem dL_law_469 : decode cL_law 469 = .ok (.istore 5, 2) := by decide +kernel
theorem dL_law_471 : decode cL_law 471 = .ok (.aload_n 2, 1) := by decide +kernel
theorem dL_law_472 : decode cL_law 472 = .ok (.aload_n 0, 1) := by decide +kernel
theorem dL_law_473 : decode cL_law 473 = .ok (.iload 4, 2) := by decide +kernel
theorem dL_law_475 : decode cL_law 475 = .ok (.iconst 1, 1) := by decide +kernel
theorem dL_law_476 : decode cL_law 476 = .ok (.iadd, 1) := by decide +kernel
theorem dL_law_477 : decode cL_law 477 = .ok (.iaload, 1) := by decide +kernel
theorem dL_law_478 : decode cL_law 478 = .ok (.aload_n 0, 1) := by decide +kernel
theorem dL_law_479 : decode cL_law 479 = .ok (.iload 4, 2) := by decide +kernel
theorem dL_law_481 : decode cL_law 481 = .ok (.iconst 2, 1) := by decide +kernel
theorem dL_law_482 : decode cL_law 482 = .ok (.iadd, 1) := by decide +kernel
theorem dL_law_483 : decode cL_law 483 = .ok (.iaload, 1) := by decide +kernel
theorem dL_law_484 : decode cL_law 484 = .ok (.invokevirtual 112, 3) := by decide +kernel
theorem dL_law_487 : decode cL_law 487 = .ok (.istore 6, 2) := by decide +kernel
theorem dL_law_489 : decode cL_law 489 = .ok (.aload_n 2, 1) := by decide +kernel
theorem dL_law_490 : decode cL_law 490 = .ok (.invokevirtual 92, 3) := by decide +kernel
theorem dL_law_493 : decode cL_law 493 = .ok (.iload 5, 2) := by decide +kernel
theorem dL_law_495 : decode cL_law 495 = .ok (.if_icmp .eq 5, 3) := by decide +kernel
theorem dL_law_498 : decode cL_law 498 = .ok (.iconst 0, 1) := by decide +kernel
theorem dL_law_499 : decode cL_law 499 = .ok (.ireturn, 1) := by decide +kernel
theorem dL_law_500 : decode cL_law 500 = .ok (.iload 5, 2) := by decide +kernel
theorem dL_law_502 : decode cL_law 502 = .ok (.ifCond .ne 15, 3) := by decide +kernel
theorem dL_law_505 : decode cL_law 505 = .ok (.aload_n 3, 1) := by decide +kernel
theorem dL_law_506 : decode cL_law 506 = .ok (.iconst 0, 1) := by decide +kernel
theorem dL_law_507 : decode cL_law 507 = .ok (.laload, 1) := by decide +kernel
theorem dL_law_508 : decode cL_law 508 = .ok (.iload 6, 2) := by decide +kernel
theorem dL_law_510 : decode cL_law 510 = .ok (.i2l, 1) := by decide +kernel
theorem dL_law_511 : decode cL_law 511 = .ok (.lcmp, 1) := by decide +kernel
theorem dL_law_512 : decode cL_law 512 = .ok (.ifCond .eq 5, 3) := by decide +kernel
theorem dL_law_515 : decode cL_law 515 = .ok (.iconst 0, 1) := by decide +kernel
theorem dL_law_516 : decode cL_law 516 = .ok (.ireturn, 1) := by decide +kernel
theorem dL_law_517 : decode cL_law 517 = .ok (.goto 1044, 3) := by decide +kernel
theorem dL_law_520 : decode cL_law 520 = .ok (.aload_n 1, 1) := by decide +kernel
theorem dL_law_521 : decode cL_law 521 = .ok (.aload_n 0, 1) := by decide +kernel
theorem dL_law_522 : decode cL_law 522 = .ok (.iload 4, 2) := by decide +kernel
theorem dL_law_524 : decode cL_law 524 = .ok (.iconst 1, 1) := by decide +kernel
theorem dL_law_525 : decode cL_law 525 = .ok (.iadd, 1) := by decide +kernel
theorem dL_law_526 : decode cL_law 526 = .ok (.iaload, 1) := by decide +kernel
theorem dL_law_527 : decode cL_law 527 = .ok (.aload_n 0, 1) := by decide +kernel
theorem dL_law_528 : decode cL_law 528 = .ok (.iload 4, 2) := by decide +kernel
theorem dL_law_530 : decode cL_law 530 = .ok (.iconst 2, 1) := by decide +kernel
theorem dL_law_531 : decode cL_law 531 = .ok (.iadd, 1) := by decide +kernel
theorem dL_law_532 : decode cL_law 532 = .ok (.iaload, 1) := by decide +kernel
theorem dL_law_533 : decode cL_law 533 = .ok (.aload_n 3, 1) := by decide +kernel
theorem dL_law_534 : decode cL_law 534 = .ok (.invokestatic 113, 3) := by decide +kernel
theorem dL_law_537 : decode cL_law 537 = .ok (.istore 5, 2) := by decide +kernel
theorem dL_law_539 : decode cL_law 539 = .ok (.aload_n 2, 1) := by decide +kernel
theorem dL_law_540 : decode cL_law 540 = .ok (.aload_n 0, 1) := by decide +kernel
theorem dL_law_541 : decode cL_law 541 = .ok (.iload 4, 2) := by decide +kernel
theorem dL_law_543 : decode cL_law 543 = .ok (.iconst 1, 1) := by decide +kernel
theorem dL_law_544 : decode cL_law 544 = .ok (.iadd, 1) := by decide +kernel
theorem dL_law_545 : decode cL_law 545 = .ok (.iaload, 1) := by decide +kernel
theorem dL_law_546 : decode cL_law 546 = .ok (.aload_n 0, 1) := by decide +kernel
theorem dL_law_547 : decode cL_law 547 = .ok (.iload 4, 2) := by decide +kernel
theorem dL_law_549 : decode cL_law 549 = .ok (.iconst 2, 1) := by decide +kernel
theorem dL_law_550 : decode cL_law 550 = .ok (.iadd, 1) := by decide +kernel
theorem dL_law_551 : decode cL_law 551 = .ok (.iaload, 1) := by decide +kernel
theorem dL_law_552 : decode cL_law 552 = .ok (.invokevirtual 115, 3) := by decide +kernel
theorem dL_law_555 : decode cL_law 555 = .ok (.istore 6, 2) := by decide +kernel
theorem dL_law_557 : decode cL_law 557 = .ok (.aload_n 2, 1) := by decide +kernel
theorem dL_law_558 : decode cL_law 558 = .ok (.invokevirtual 92, 3) := by decide +kernel
theorem dL_law_561 : decode cL_law 561 = .ok (.iload 5, 2) := by decide +kernel
theorem dL_law_563 : decode cL_law 563 = .ok (.if_icmp .eq 5, 3) := by decide +kernel
theorem dL_law_566 : decode cL_law 566 = .ok (.iconst 0, 1) := by decide +kernel
theorem dL_law_567 : decode cL_law 567 = .ok (.ireturn, 1) := by decide +kernel
theorem dL_law_568 : decode cL_law 568 = .ok (.iload 5, 2) := by decide +kernel
theorem dL_law_570 : decode cL_law 570 = .ok (.ifCond .ne 15, 3) := by decide +kernel
theorem dL_law_573 : decode cL_law 573 = .ok (.aload_n 3, 1) := by decide +kernel
theorem dL_law_574 : decode cL_law 574 = .ok (.iconst 0, 1) := by decide +kernel
theorem dL_law_575 : decode cL_law 575 = .ok (.laload, 1) := by decide +kernel
theorem dL_law_576 : decode cL_law 576 = .ok (.iload 6, 2) := by decide +kernel
theorem dL_law_578 : decode cL_law 578 = .ok (.i2l, 1) := by decide +kernel
theorem dL_law_579 : decode cL_law 579 = .ok (.lcmp, 1) := by decide +kernel
theorem dL_law_580 : decode cL_law 580 = .ok (.ifCond .eq 5, 3) := by decide +kernel
theorem dL_law_583 : decode cL_law 583 = .ok (.iconst 0, 1) := by decide +kernel
theorem dL_law_584 : decode cL_law 584 = .ok (.ireturn, 1) := by decide +kernel
theorem dL_law_585 : decode cL_law 585 = .ok (.goto 976, 3) := by decide +kernel
theorem dL_law_588 : decode cL_law 588 = .ok (.aload_n 1, 1) := by decide +kernel
theorem dL_law_589 : decode cL_law 589 = .ok (.aload_n 0, 1) := by decide +kernel
theorem dL_law_590 : decode cL_law 590 = .ok (.iload 4, 2) := by decide +kernel
theorem dL_law_592 : decode cL_law 592 = .ok (.iconst 1, 1) := by decide +kernel
theorem dL_law_593 : decode cL_law 593 = .ok (.iadd, 1) := by decide +kernel
theorem dL_law_594 : decode cL_law 594 = .ok (.iaload, 1) := by decide +kernel
theorem dL_law_595 : decode cL_law 595 = .ok (.aload_n 0, 1) := by decide +kernel
theorem dL_law_596 : decode cL_law 596 = .ok (.iload 4, 2) := by decide +kernel
theorem dL_law_598 : decode cL_law 598 = .ok (.iconst 2, 1) := by decide +kernel
theorem dL_law_599 : decode cL_law 599 = .ok (.iadd, 1) := by decide +kernel
theorem dL_law_600 : decode cL_law 600 = .ok (.iaload, 1) := by decide +kernel
theorem dL_law_601 : decode cL_law 601 = .ok (.aload_n 3, 1) := by decide +kernel
theorem dL_law_602 : decode cL_law 602 = .ok (.invokestatic 116, 3) := by decide +kernel
theorem dL_law_605 : decode cL_law 605 = .ok (.istore 5, 2) := by decide +kernel
theorem dL_law_607 : decode cL_law 607 = .ok (.aload_n 2, 1) := by decide +kernel
theorem dL_law_608 : decode cL_law 608 = .ok (.aload_n 0, 1) := by decide +kernel
theorem dL_law_609 : decode cL_law 609 = .ok (.iload 4, 2) := by decide +kernel
theorem dL_law_611 : decode cL_law 611 = .ok (.iconst 1, 1) := by decide +kernel
theorem dL_law_612 : decode cL_law 612 = .ok (.iadd, 1) := by decide +kernel
theorem dL_law_613 : decode cL_law 613 = .ok (.iaload, 1) := by decide +kernel
theorem dL_law_614 : decode cL_law 614 = .ok (.aload_n 0, 1) := by decide +kernel
theorem dL_law_615 : decode cL_law 615 = .ok (.iload 4, 2) := by decide +kernel
theorem dL_law_617 : decode cL_law 617 = .ok (.iconst 2, 1) := by decide +kernel
theorem dL_law_618 : decode cL_law 618 = .ok (.iadd, 1) := by decide +kernel
theorem dL_law_619 : decode cL_law 619 = .ok (.iaload, 1) := by decide +kernel
theorem dL_law_620 : decode cL_law 620 = .ok (.invokevirtual 118, 3) := by decide +kernel
theorem dL_law_623 : decode cL_law 623 = .ok (.istore 6, 2) := by decide +kernel
theorem dL_law_625 : decode cL_law 625 = .ok (.aload_n 2, 1) := by decide +kernel
theorem dL_law_626 : decode cL_law 626 = .ok (.invokevirtual 92, 3) := by decide +kernel
theorem dL_law_629 : decode cL_law 629 = .ok (.iload 5, 2) := by decide +kernel
theorem dL_law_631 : decode cL_law 631 = .ok (.if_icmp .eq 5, 3) := by decide +kernel
theorem dL_law_634 : decode cL_law 634 = .ok (.iconst 0, 1) := by decide +kernel
theorem dL_law_635 : decode cL_law 635 = .ok (.ireturn, 1) := by decide +kernel
theorem dL_law_636 : decode cL_law 636 = .ok (.iload 5, 2) := by decide +kernel
theorem dL_law_638 : decode cL_law 638 = .ok (.ifCond .ne 15, 3) := by decide +kernel
theorem dL_law_641 : decode cL_law 641 = .ok (.aload_n 3, 1) := by decide +kernel
theorem dL_law_642 : decode cL_law 642 = .ok (.iconst 0, 1) := by decide +kernel
theorem dL_law_643 : decode cL_law 643 = .ok (.laload, 1) := by decide +kernel
theorem dL_law_644 : decode cL_law 644 = .ok (.iload 6, 2) := by decide +kernel
theorem dL_law_646 : decode cL_law 646 = .ok (.i2l, 1) := by decide +kernel
theorem dL_law_647 : decode cL_law 647 = .ok (.lcmp, 1) := by decide +kernel
theorem dL_law_648 : decode cL_law 648 = .ok (.ifCond .eq 5, 3) := by decide +kernel
theorem dL_law_651 : decode cL_law 651 = .ok (.iconst 0, 1) := by decide +kernel
theorem dL_law_652 : decode cL_law 652 = .ok (.ireturn, 1) := by decide +kernel
theorem dL_law_653 : decode cL_law 653 = .ok (.goto 908, 3) := by decide +kernel
theorem dL_law_656 : decode cL_law 656 = .ok (.aload_n 1, 1) := by decide +kernel
theorem dL_law_657 : decode cL_law 657 = .ok (.aload_n 0, 1) := by decide +kernel
theorem dL_law_658 : decode cL_law 658 = .ok (.iload 4, 2) := by decide +kernel
theorem dL_law_660 : decode cL_law 660 = .ok (.iconst 1, 1) := by decide +kernel
theorem dL_law_661 : decode cL_law 661 = .ok (.iadd, 1) := by decide +kernel
theorem dL_law_662 : decode cL_law 662 = .ok (.iaload, 1) := by decide +kernel
theorem dL_law_663 : decode cL_law 663 = .ok (.aload_n 0, 1) := by decide +kernel
theorem dL_law_664 : decode cL_law 664 = .ok (.iload 4, 2) := by decide +kernel
theorem dL_law_666 : decode cL_law 666 = .ok (.iconst 2, 1) := by decide +kernel
theorem dL_law_667 : decode cL_law 667 = .ok (.iadd, 1) := by decide +kernel
theorem dL_law_668 : decode cL_law 668 = .ok (.iaload, 1) := by decide +kernel
theorem dL_law_669 : decode cL_law 669 = .ok (.aload_n 3, 1) := by decide +kernel
theorem dL_law_670 : decode cL_law 670 = .ok (.invokestatic 119, 3) := by decide +kernel
theorem dL_law_673 : decode cL_law 673 = .ok (.istore 5, 2) := by decide +kernel
theorem dL_law_675 : decode cL_law 675 = .ok (.aload_n 2, 1) := by decide +kernel
theorem dL_law_676 : decode cL_law 676 = .ok (.aload_n 0, 1) := by decide +kernel
theorem dL_law_677 : decode cL_law 677 = .ok (.iload 4, 2) := by decide +kernel
theorem dL_law_679 : decode cL_law 679 = .ok (.iconst 1, 1) := by decide +kernel
theorem dL_law_680 : decode cL_law 680 = .ok (.iadd, 1) := by decide +kernel
theorem dL_law_681 : decode cL_law 681 = .ok (.iaload, 1) := by decide +kernel
theorem dL_law_682 : decode cL_law 682 = .ok (.aload_n 0, 1) := by decide +kernel
theorem dL_law_683 : decode cL_law 683 = .ok (.iload 4, 2) := by decide +kernel
theorem dL_law_685 : decode cL_law 685 = .ok (.iconst 2, 1) := by decide +kernel
theorem dL_law_686 : decode cL_law 686 = .ok (.iadd, 1) := by decide +kernel
theorem dL_law_687 : decode cL_law 687 = .ok (.iaload, 1) := by decide +kernel
theorem dL_law_688 : decode cL_law 688 = .ok (.invokevirtual 121, 3) := by decide +kernel
theorem dL_law_691 : decode cL_law 691 = .ok (.istore 6, 2) := by decide +kernel
theorem dL_law_693 : decode cL_law 693 = .ok (.aload_n 2, 1) := by decide +kernel
theorem dL_law_694 : decode cL_law 694 = .ok (.invokevirtual 92, 3) := by decide +kernel
theorem dL_law_697 : decode cL_law 697 = .ok (.iload 5, 2) := by decide +kernel
theorem dL_law_699 : decode cL_law 699 = .ok (.if_icmp .eq 5, 3) := by decide +kernel
theorem dL_law_702 : decode cL_law 702 = .ok (.iconst 0, 1) := by decide +kernel
theorem dL_law_703 : decode cL_law 703 = .ok (.ireturn, 1) := by decide +kernel
theorem dL_law_704 : decode cL_law 704 = .ok (.iload 5, 2) := by decide +kernel
theorem dL_law_706 : decode cL_law 706 = .ok (.ifCond .ne 15, 3) := by decide +kernel
theorem dL_law_709 : decode cL_law 709 = .ok (.aload_n 3, 1) := by decide +kernel
theorem dL_law_710 : decode cL_law 710 = .ok (.iconst 0, 1) := by decide +kernel
theorem dL_law_711 : decode cL_law 711 = .ok (.laload, 1) := by decide +kernel
theorem dL_law_712 : decode cL_law 712 = .ok (.iload 6, 2) := by decide +kernel
theorem dL_law_714 : decode cL_law 714 = .ok (.i2l, 1) := by decide +kernel
theorem dL_law_715 : decode cL_law 715 = .ok (.lcmp, 1) := by decide +kernel
theorem dL_law_716 : decode cL_law 716 = .ok (.ifCond .eq 5, 3) := by decide +kernel
theorem dL_law_719 : decode cL_law 719 = .ok (.iconst 0, 1) := by decide +kernel
theorem dL_law_720 : decode cL_law 720 = .ok (.ireturn, 1) := by decide +kernel
theorem dL_law_721 : decode cL_law 721 = .ok (.goto 840, 3) := by decide +kernel
theorem dL_law_724 : decode cL_law 724 = .ok (.aload_n 1, 1) := by decide +kernel
theorem dL_law_725 : decode cL_law 725 = .ok (.aload_n 0, 1) := by decide +kernel
theorem dL_law_726 : decode cL_law 726 = .ok (.iload 4, 2) := by decide +kernel
theorem dL_law_728 : decode cL_law 728 = .ok (.iconst 1, 1) := by decide +kernel
theorem dL_law_729 : decode cL_law 729 = .ok (.iadd, 1) := by decide +kernel
theorem dL_law_730 : decode cL_law 730 = .ok (.iaload, 1) := by decide +kernel
theorem dL_law_731 : decode cL_law 731 = .ok (.aload_n 0, 1) := by decide +kernel
theorem dL_law_732 : decode cL_law 732 = .ok (.iload 4, 2) := by decide +kernel
theorem dL_law_734 : decode cL_law 734 = .ok (.iconst 2, 1) := by decide +kernel
theorem dL_law_735 : decode cL_law 735 = .ok (.iadd, 1) := by decide +kernel
theorem dL_law_736 : decode cL_law 736 = .ok (.iaload, 1) := by decide +kernel
theorem dL_law_737 : decode cL_law 737 = .ok (.aload_n 3, 1) := by decide +kernel
theorem dL_law_738 : decode cL_law 738 = .ok (.invokestatic 122, 3) := by decide +kernel
theorem dL_law_741 : decode cL_law 741 = .ok (.istore 5, 2) := by decide +kernel
theorem dL_law_743 : decode cL_law 743 = .ok (.aload_n 2, 1) := by decide +kernel
theorem dL_law_744 : decode cL_law 744 = .ok (.aload_n 0, 1) := by decide +kernel
theorem dL_law_745 : decode cL_law 745 = .ok (.iload 4, 2) := by decide +kernel
theorem dL_law_747 : decode cL_law 747 = .ok (.iconst 1, 1) := by decide +kernel
theorem dL_law_748 : decode cL_law 748 = .ok (.iadd, 1) := by decide +kernel
theorem dL_law_749 : decode cL_law 749 = .ok (.iaload, 1) := by decide +kernel
theorem dL_law_750 : decode cL_law 750 = .ok (.aload_n 0, 1) := by decide +kernel
theorem dL_law_751 : decode cL_law 751 = .ok (.iload 4, 2) := by decide +kernel
theorem dL_law_753 : decode cL_law 753 = .ok (.iconst 2, 1) := by decide +kernel
theorem dL_law_754 : decode cL_law 754 = .ok (.iadd, 1) := by decide +kernel
theorem dL_law_755 : decode cL_law 755 = .ok (.iaload, 1) := by decide +kernel
theorem dL_law_756 : decode cL_law 756 = .ok (.invokevirtual 124, 3) := by decide +kernel
theorem dL_law_759 : decode cL_law 759 = .ok (.istore 6, 2) := by decide +kernel
theorem dL_law_761 : decode cL_law 761 = .ok (.aload_n 2, 1) := by decide +kernel
theorem dL_law_762 : decode cL_law 762 = .ok (.invokevirtual 92, 3) := by decide +kernel
theorem dL_law_765 : decode cL_law 765 = .ok (.iload 5, 2) := by decide +kernel
theorem dL_law_767 : decode cL_law 767 = .ok (.if_icmp .eq 5, 3) := by decide +kernel
theorem dL_law_770 : decode cL_law 770 = .ok (.iconst 0, 1) := by decide +kernel
theorem dL_law_771 : decode cL_law 771 = .ok (.ireturn, 1) := by decide +kernel
theorem dL_law_772 : decode cL_law 772 = .ok (.iload 5, 2) := by decide +kernel
theorem dL_law_774 : decode cL_law 774 = .ok (.ifCond .ne 15, 3) := by decide +kernel
theorem dL_law_777 : decode cL_law 777 = .ok (.aload_n 3, 1) := by decide +kernel
theorem dL_law_778 : decode cL_law 778 = .ok (.iconst 0, 1) := by decide +kernel
theorem dL_law_779 : decode cL_law 779 = .ok (.laload, 1) := by decide +kernel
theorem dL_law_780 : decode cL_law 780 = .ok (.iload 6, 2) := by decide +kernel
theorem dL_law_782 : decode cL_law 782 = .ok (.i2l, 1) := by decide +kernel
theorem dL_law_783 : decode cL_law 783 = .ok (.lcmp, 1) := by decide +kernel
theorem dL_law_784 : decode cL_law 784 = .ok (.ifCond .eq 5, 3) := by decide +kernel
theorem dL_law_787 : decode cL_law 787 = .ok (.iconst 0, 1) := by decide +kernel
theorem dL_law_788 : decode cL_law 788 = .ok (.ireturn, 1) := by decide +kernel
theorem dL_law_789 : decode cL_law 789 = .ok (.goto 772, 3) := by decide +kernel
theorem dL_law_792 : decode cL_law 792 = .ok (.aload_n 1, 1) := by decide +kernel
theorem dL_law_793 : decode cL_law 793 = .ok (.aload_n 0, 1) := by decide +kernel
theorem dL_law_794 : decode cL_law 794 = .ok (.iload 4, 2) := by decide +kernel
theorem dL_law_796 : decode cL_law 796 = .ok (.iconst 1, 1) := by decide +kernel
theorem dL_law_797 : decode cL_law 797 = .ok (.iadd, 1) := by decide +kernel
theorem dL_law_798 : decode cL_law 798 = .ok (.iaload, 1) := by decide +kernel
theorem dL_law_799 : decode cL_law 799 = .ok (.aload_n 0, 1) := by decide +kernel
theorem dL_law_800 : decode cL_law 800 = .ok (.iload 4, 2) := by decide +kernel
theorem dL_law_802 : decode cL_law 802 = .ok (.iconst 2, 1) := by decide +kernel
theorem dL_law_803 : decode cL_law 803 = .ok (.iadd, 1) := by decide +kernel
theorem dL_law_804 : decode cL_law 804 = .ok (.iaload, 1) := by decide +kernel
theorem dL_law_805 : decode cL_law 805 = .ok (.aload_n 3, 1) := by decide +kernel
theorem dL_law_806 : decode cL_law 806 = .ok (.invokestatic 125, 3) := by decide +kernel
theorem dL_law_809 : decode cL_law 809 = .ok (.istore 5, 2) := by decide +kernel
theorem dL_law_811 : decode cL_law 811 = .ok (.aload_n 2, 1) := by decide +kernel
theorem dL_law_812 : decode cL_law 812 = .ok (.aload_n 0, 1) := by decide +kernel
theorem dL_law_813 : decode cL_law 813 = .ok (.iload 4, 2) := by decide +kernel
theorem dL_law_815 : decode cL_law 815 = .ok (.iconst 1, 1) := by decide +kernel
theorem dL_law_816 : decode cL_law 816 = .ok (.iadd, 1) := by decide +kernel
theorem dL_law_817 : decode cL_law 817 = .ok (.iaload, 1) := by decide +kernel
theorem dL_law_818 : decode cL_law 818 = .ok (.aload_n 0, 1) := by decide +kernel
theorem dL_law_819 : decode cL_law 819 = .ok (.iload 4, 2) := by decide +kernel
