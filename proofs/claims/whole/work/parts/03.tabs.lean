-- tables of the walked methods (by gen_tabs.py): number, class, code, locals, answer, arguments, kind, long locals, rank
def clsN : Nat → String := fun k => match k with
  | 0 => RX0
  | 1 => RX1
  | 2 => RX2
  | 3 => RX3
  | 4 => RX4
  | 5 => RX5
  | 6 => RX6
  | 7 => RX7
  | 8 => RX8
  | 9 => RL
  | 10 => RJ0
  | 11 => RJ1
  | 12 => RJ3
  | 13 => RJ9
  | _ => ""
def mY : Nat → MethodName := fun k => match k with
  | 0 => ⟨RX0, "<init>", "()V"⟩
  | 1 => ⟨RX0, "add", "(ZIII)I"⟩
  | 2 => ⟨RX0, "isAhead", "(I)Z"⟩
  | 3 => ⟨RX0, "isLastOfItsWay", "(I)Z"⟩
  | 4 => ⟨RX0, "stretchOf", "(I)I"⟩
  | 5 => ⟨RX0, "placeAhead", "(I)I"⟩
  | 6 => ⟨RX0, "stand", "(III)V"⟩
  | 7 => ⟨RX0, "leave", "(II)V"⟩
  | 8 => ⟨RX0, "end", "(II)V"⟩
  | 9 => ⟨RX0, "howManyOver", "()I"⟩
  | 10 => ⟨RX0, "allCoins", "()I"⟩
  | 11 => ⟨RX0, "copyFrom", "(LPostBus$Fleet;)V"⟩
  | 12 => ⟨RX1, "<init>", "()V"⟩
  | 13 => ⟨RX1, "add", "(IIII)I"⟩
  | 14 => ⟨RX1, "nextAt", "(IZZI)I"⟩
  | 15 => ⟨RX1, "rank", "(I)I"⟩
  | 16 => ⟨RX1, "fare", "(I)I"⟩
  | 17 => ⟨RX1, "howManyOut", "()I"⟩
  | 18 => ⟨RX1, "howManyWait", "(I)I"⟩
  | 19 => ⟨RX1, "copyFrom", "(LPostBus$Freight;)V"⟩
  | 20 => ⟨RX2, "<init>", "()V"⟩
  | 21 => ⟨RX2, "read", "(LPostBus$Tape;I)I"⟩
  | 22 => ⟨RX2, "cutIntoTokens", "(LPostBus$Tape;)V"⟩
  | 23 => ⟨RX2, "wordKind", "(LPostBus$Tape;II)I"⟩
  | 24 => ⟨RX2, "addToken", "(III)V"⟩
  | 25 => ⟨RX2, "kind", "()I"⟩
  | 26 => ⟨RX2, "number", "()I"⟩
  | 27 => ⟨RX2, "pass", "(I)I"⟩
  | 28 => ⟨RX2, "passNumber", "(II)I"⟩
  | 29 => ⟨RX2, "readLine", "(II)I"⟩
  | 30 => ⟨RX2, "expression", "(I)I"⟩
  | 31 => ⟨RX2, "sum", "(I)I"⟩
  | 32 => ⟨RX2, "part", "(I)I"⟩
  | 33 => ⟨RX3, "<init>", "()V"⟩
  | 34 => ⟨RX3, "hasPlace", "(I)Z"⟩
  | 35 => ⟨RX3, "hasStretch", "(I)Z"⟩
  | 36 => ⟨RX3, "isPassing", "(I)Z"⟩
  | 37 => ⟨RX3, "addPlace", "(IZ)I"⟩
  | 38 => ⟨RX3, "setTrain", "(III)V"⟩
  | 39 => ⟨RX3, "minutesUntilTrain", "(III)I"⟩
  | 40 => ⟨RX3, "addSnow", "(III)V"⟩
  | 41 => ⟨RX3, "isShut", "(II)Z"⟩
  | 42 => ⟨RX3, "lowerEndOfBlock", "(I)I"⟩
  | 43 => ⟨RX3, "upperEndOfBlock", "(I)I"⟩
  | 44 => ⟨RX4, "<init>", "()V"⟩
  | 45 => ⟨RX4, "clear", "()V"⟩
  | 46 => ⟨RX4, "addStep", "(II)V"⟩
  | 47 => ⟨RX4, "addLine", "(II)V"⟩
  | 48 => ⟨RX4, "startOf", "(I)I"⟩
  | 49 => ⟨RX4, "endOf", "(I)I"⟩
  | 50 => ⟨RX4, "kindOf", "(I)I"⟩
  | 51 => ⟨RX4, "numberOf", "(I)I"⟩
  | 52 => ⟨RX4, "copyFrom", "(LPostBus$Rules;)V"⟩
  | 53 => ⟨RX5, "<init>", "()V"⟩
  | 54 => ⟨RX5, "addEight", "(J)V"⟩
  | 55 => ⟨RX5, "endOfSigns", "(ICC)I"⟩
  | 56 => ⟨RX5, "numberAt", "(II)I"⟩
  | 57 => ⟨RX5, "hasWord", "(III)Z"⟩
  | 58 => ⟨RX6, "<init>", "(LPostBus$Road;LPostBus$Rules;)V"⟩
  | 59 => ⟨RX6, "copyFrom", "(LPostBus$World;)V"⟩
  | 60 => ⟨RX6, "goOnUntil", "(I)V"⟩
  | 61 => ⟨RX6, "minutesUntilOver", "(II)I"⟩
  | 62 => ⟨RX6, "tick", "()V"⟩
  | 63 => ⟨RX6, "driveOn", "(I)V"⟩
  | 64 => ⟨RX6, "letOut", "(I)V"⟩
  | 65 => ⟨RX6, "countIn", "(III)V"⟩
  | 66 => ⟨RX6, "takeIn", "(I)V"⟩
  | 67 => ⟨RX6, "takeInUpTo", "(IZI)V"⟩
  | 68 => ⟨RX6, "leaveIfFree", "(I)V"⟩
  | 69 => ⟨RX6, "isWayFree", "(II)Z"⟩
  | 70 => ⟨RX6, "isHeld", "(I)Z"⟩
  | 71 => ⟨RX6, "valueOf", "(II)I"⟩
  | 72 => ⟨RX6, "join", "(III)I"⟩
  | 73 => ⟨RX6, "fact", "(III)I"⟩
  | 74 => ⟨RX6, "late", "(I)I"⟩
  | 75 => ⟨RX7, "<init>", "()V"⟩
  | 76 => ⟨RX7, "place", "(IZ)I"⟩
  | 77 => ⟨RX7, "run", "(ZIII)I"⟩
  | 78 => ⟨RX7, "load", "(IIII)I"⟩
  | 79 => ⟨RX7, "train", "(III)Z"⟩
  | 80 => ⟨RX7, "snow", "(III)Z"⟩
  | 81 => ⟨RX7, "feed", "(JJJ)I"⟩
  | 82 => ⟨RX7, "text", "()I"⟩
  | 83 => ⟨RX7, "minutes", "(I)I"⟩
  | 84 => ⟨RX7, "best", "(III)I"⟩
  | 85 => ⟨RX7, "takes", "()I"⟩
  | 86 => ⟨RX7, "shift", "(II)Z"⟩
  | 87 => ⟨RX7, "look", "(II)I"⟩
  | 88 => ⟨RX7, "lies", "(II)I"⟩
  | 89 => ⟨RX7, "shut", "(I)I"⟩
  | 90 => ⟨RX7, "count", "(I)I"⟩
  | 91 => ⟨RX7, "maySetOut", "(I)Z"⟩
  | 92 => ⟨RX7, "within", "(III)Z"⟩
  | 93 => ⟨RX8, "thrown", "()I"⟩
  | 94 => ⟨RX8, "feed", "(JJJ)I"⟩
  | 95 => ⟨RX8, "lay", "(J)V"⟩
  | 96 => ⟨RX8, "<init>", "()V"⟩
  | 97 => ⟨RX8, "isLetter", "(I)Z"⟩
  | 98 => ⟨RX8, "isDigit", "(I)Z"⟩
  | 99 => ⟨RX8, "rank", "(I)I"⟩
  | 100 => ⟨RX8, "isSignOf", "(I)Z"⟩
  | 101 => ⟨RX8, "cutAll", "()V"⟩
  | 102 => ⟨RX8, "wrong", "(I)V"⟩
  | 103 => ⟨RX8, "isSign", "(I)Z"⟩
  | 104 => ⟨RX8, "isWord", "(I)Z"⟩
  | 105 => ⟨RX8, "takeSign", "(I)V"⟩
  | 106 => ⟨RX8, "hasSign", "(I)Z"⟩
  | 107 => ⟨RX8, "hasWord", "(I)Z"⟩
  | 108 => ⟨RX8, "takeWord", "(I)V"⟩
  | 109 => ⟨RX8, "isPlace", "(I)Z"⟩
  | 110 => ⟨RX8, "passes", "(I)Z"⟩
  | 111 => ⟨RX8, "place", "(IZ)I"⟩
  | 112 => ⟨RX8, "run", "(ZIII)I"⟩
  | 113 => ⟨RX8, "load", "(IIII)I"⟩
  | 114 => ⟨RX8, "train", "(III)Z"⟩
  | 115 => ⟨RX8, "snow", "(III)Z"⟩
  | 116 => ⟨RX8, "isShut", "(I)Z"⟩
  | 117 => ⟨RX8, "emit", "(II)V"⟩
  | 118 => ⟨RX8, "takeNumber", "(II)I"⟩
  | 119 => ⟨RX8, "text", "()I"⟩
  | 120 => ⟨RX8, "line", "()V"⟩
  | 121 => ⟨RX8, "opens", "()V"⟩
  | 122 => ⟨RX8, "partWord", "()I"⟩
  | 123 => ⟨RX8, "part", "()Z"⟩
  | 124 => ⟨RX8, "goesOnBehind", "()Z"⟩
  | 125 => ⟨RX8, "worth", "(II)I"⟩
  | 126 => ⟨RX8, "trainIn", "(II)I"⟩
  | 127 => ⟨RX8, "partOf", "(II)I"⟩
  | 128 => ⟨RX8, "inside", "(IZ)I"⟩
  | 129 => ⟨RX8, "lateness", "(I)I"⟩
  | 130 => ⟨RX8, "isLast", "(I)Z"⟩
  | 131 => ⟨RX8, "isHeld", "(I)Z"⟩
  | 132 => ⟨RX8, "arrives", "(I)V"⟩
  | 133 => ⟨RX8, "waitsFor", "(II)Z"⟩
  | 134 => ⟨RX8, "farOf", "(I)I"⟩
  | 135 => ⟨RX8, "nextOf", "(IZ)I"⟩
  | 136 => ⟨RX8, "takesIn", "(IZ)V"⟩
  | 137 => ⟨RX8, "isFree", "(I)Z"⟩
  | 138 => ⟨RX8, "stands", "(I)V"⟩
  | 139 => ⟨RX8, "minute", "()V"⟩
  | 140 => ⟨RX8, "minutes", "(I)I"⟩
  | 141 => ⟨RX8, "isRun", "(I)Z"⟩
  | 142 => ⟨RX8, "best", "(III)I"⟩
  | 143 => ⟨RX8, "takes", "()I"⟩
  | 144 => ⟨RX8, "shift", "(II)Z"⟩
  | 145 => ⟨RX8, "look", "(II)I"⟩
  | 146 => ⟨RX8, "lies", "(II)I"⟩
  | 147 => ⟨RX8, "shut", "(I)I"⟩
  | 148 => ⟨RX8, "count", "(I)I"⟩
  | 149 => ⟨RL, "law", "([I)Z"⟩
  | 150 => ⟨RJ0, "charAt", "(I)C"⟩
  | 151 => ⟨RJ0, "isLatin1", "()Z"⟩
  | 152 => ⟨RJ1, "charAt", "([BI)C"⟩
  | 153 => ⟨RJ0, "checkIndex", "(II)V"⟩
  | 154 => ⟨RJ3, "checkIndex", "(IILjava/util/function/BiFunction;)I"⟩
  | 155 => ⟨RJ0, "indexOf", "(I)I"⟩
  | 156 => ⟨RJ0, "indexOf", "(II)I"⟩
  | 157 => ⟨RJ0, "length", "()I"⟩
  | 158 => ⟨RJ0, "coder", "()B"⟩
  | 159 => ⟨RJ1, "indexOf", "([BIII)I"⟩
  | 160 => ⟨RJ1, "canEncode", "(I)Z"⟩
  | 161 => ⟨RJ1, "indexOfChar", "([BIII)I"⟩
  | _ => ⟨"", "", ""⟩
def mCode : Nat → ByteArray := fun k => match k with
  | 0 => prog_2_method_1_code
  | 1 => prog_2_method_2_code
  | 2 => prog_2_method_3_code
  | 3 => prog_2_method_4_code
  | 4 => prog_2_method_5_code
  | 5 => prog_2_method_6_code
  | 6 => prog_2_method_7_code
  | 7 => prog_2_method_8_code
  | 8 => prog_2_method_9_code
  | 9 => prog_2_method_10_code
  | 10 => prog_2_method_11_code
  | 11 => prog_2_method_12_code
  | 12 => prog_3_method_1_code
  | 13 => prog_3_method_2_code
  | 14 => prog_3_method_3_code
  | 15 => prog_3_method_4_code
  | 16 => prog_3_method_5_code
  | 17 => prog_3_method_6_code
  | 18 => prog_3_method_7_code
  | 19 => prog_3_method_8_code
  | 20 => prog_4_method_1_code
  | 21 => prog_4_method_2_code
  | 22 => prog_4_method_3_code
  | 23 => prog_4_method_4_code
  | 24 => prog_4_method_5_code
  | 25 => prog_4_method_6_code
  | 26 => prog_4_method_7_code
  | 27 => prog_4_method_8_code
  | 28 => prog_4_method_9_code
  | 29 => prog_4_method_10_code
  | 30 => prog_4_method_11_code
  | 31 => prog_4_method_12_code
  | 32 => prog_4_method_13_code
  | 33 => prog_5_method_1_code
  | 34 => prog_5_method_2_code
  | 35 => prog_5_method_3_code
  | 36 => prog_5_method_4_code
  | 37 => prog_5_method_5_code
  | 38 => prog_5_method_6_code
  | 39 => prog_5_method_7_code
  | 40 => prog_5_method_8_code
  | 41 => prog_5_method_9_code
  | 42 => prog_5_method_10_code
  | 43 => prog_5_method_11_code
  | 44 => prog_6_method_1_code
  | 45 => prog_6_method_2_code
  | 46 => prog_6_method_3_code
  | 47 => prog_6_method_4_code
  | 48 => prog_6_method_5_code
  | 49 => prog_6_method_6_code
  | 50 => prog_6_method_7_code
  | 51 => prog_6_method_8_code
  | 52 => prog_6_method_9_code
  | 53 => prog_7_method_1_code
  | 54 => prog_7_method_2_code
  | 55 => prog_7_method_3_code
  | 56 => prog_7_method_4_code
  | 57 => prog_7_method_5_code
  | 58 => prog_8_method_1_code
  | 59 => prog_8_method_2_code
  | 60 => prog_8_method_3_code
  | 61 => prog_8_method_4_code
  | 62 => prog_8_method_5_code
  | 63 => prog_8_method_6_code
  | 64 => prog_8_method_7_code
  | 65 => prog_8_method_8_code
  | 66 => prog_8_method_9_code
  | 67 => prog_8_method_10_code
  | 68 => prog_8_method_11_code
  | 69 => prog_8_method_12_code
  | 70 => prog_8_method_13_code
  | 71 => prog_8_method_14_code
  | 72 => prog_8_method_15_code
  | 73 => prog_8_method_16_code
  | 74 => prog_8_method_17_code
  | 75 => prog_1_method_1_code
  | 76 => prog_1_method_2_code
  | 77 => prog_1_method_3_code
  | 78 => prog_1_method_4_code
  | 79 => prog_1_method_5_code
  | 80 => prog_1_method_6_code
  | 81 => prog_1_method_7_code
  | 82 => prog_1_method_8_code
  | 83 => prog_1_method_9_code
  | 84 => prog_1_method_10_code
  | 85 => prog_1_method_11_code
  | 86 => prog_1_method_12_code
  | 87 => prog_1_method_13_code
  | 88 => prog_1_method_14_code
  | 89 => prog_1_method_15_code
  | 90 => prog_1_method_16_code
  | 91 => prog_1_method_17_code
  | 92 => prog_1_method_18_code
  | 93 => prog_10_method_1_code
  | 94 => prog_10_method_2_code
  | 95 => prog_10_method_3_code
  | 96 => prog_10_method_4_code
  | 97 => prog_10_method_5_code
  | 98 => prog_10_method_6_code
  | 99 => prog_10_method_7_code
  | 100 => prog_10_method_8_code
  | 101 => prog_10_method_9_code
  | 102 => prog_10_method_10_code
  | 103 => prog_10_method_11_code
  | 104 => prog_10_method_12_code
  | 105 => prog_10_method_13_code
  | 106 => prog_10_method_14_code
  | 107 => prog_10_method_15_code
  | 108 => prog_10_method_16_code
  | 109 => prog_10_method_17_code
  | 110 => prog_10_method_18_code
  | 111 => prog_10_method_19_code
  | 112 => prog_10_method_20_code
  | 113 => prog_10_method_21_code
  | 114 => prog_10_method_22_code
  | 115 => prog_10_method_23_code
  | 116 => prog_10_method_24_code
  | 117 => prog_10_method_25_code
  | 118 => prog_10_method_26_code
  | 119 => prog_10_method_27_code
  | 120 => prog_10_method_28_code
  | 121 => prog_10_method_29_code
  | 122 => prog_10_method_30_code
  | 123 => prog_10_method_31_code
  | 124 => prog_10_method_32_code
  | 125 => prog_10_method_33_code
  | 126 => prog_10_method_34_code
  | 127 => prog_10_method_35_code
  | 128 => prog_10_method_36_code
  | 129 => prog_10_method_37_code
  | 130 => prog_10_method_38_code
  | 131 => prog_10_method_39_code
  | 132 => prog_10_method_40_code
  | 133 => prog_10_method_41_code
  | 134 => prog_10_method_42_code
  | 135 => prog_10_method_43_code
  | 136 => prog_10_method_44_code
  | 137 => prog_10_method_45_code
  | 138 => prog_10_method_46_code
  | 139 => prog_10_method_47_code
  | 140 => prog_10_method_48_code
  | 141 => prog_10_method_49_code
  | 142 => prog_10_method_50_code
  | 143 => prog_10_method_51_code
  | 144 => prog_10_method_52_code
  | 145 => prog_10_method_53_code
  | 146 => prog_10_method_54_code
  | 147 => prog_10_method_55_code
  | 148 => prog_10_method_56_code
  | 149 => code
  | 150 => prog_15_method_56_code
  | 151 => prog_15_method_154_code
  | 152 => prog_16_method_2_code
  | 153 => prog_15_method_155_code
  | 154 => prog_21_method_11_code
  | 155 => prog_15_method_79_code
  | 156 => prog_15_method_80_code
  | 157 => prog_15_method_54_code
  | 158 => prog_15_method_152_code
  | 159 => prog_16_method_22_code
  | 160 => prog_16_method_4_code
  | 161 => prog_16_method_23_code
  | _ => ⟨#[]⟩
def mML : Nat → Nat := fun k => match k with
  | 0 => 1
  | 1 => 5
  | 2 => 2
  | 3 => 3
  | 4 => 2
  | 5 => 2
  | 6 => 4
  | 7 => 3
  | 8 => 3
  | 9 => 3
  | 10 => 3
  | 11 => 3
  | 12 => 1
  | 13 => 5
  | 14 => 8
  | 15 => 2
  | 16 => 3
  | 17 => 3
  | 18 => 4
  | 19 => 2
  | 20 => 1
  | 21 => 5
  | 22 => 6
  | 23 => 4
  | 24 => 4
  | 25 => 1
  | 26 => 1
  | 27 => 2
  | 28 => 3
  | 29 => 6
  | 30 => 6
  | 31 => 5
  | 32 => 5
  | 33 => 2
  | 34 => 2
  | 35 => 2
  | 36 => 2
  | 37 => 3
  | 38 => 4
  | 39 => 4
  | 40 => 4
  | 41 => 4
  | 42 => 3
  | 43 => 3
  | 44 => 1
  | 45 => 1
  | 46 => 3
  | 47 => 3
  | 48 => 2
  | 49 => 2
  | 50 => 2
  | 51 => 2
  | 52 => 2
  | 53 => 1
  | 54 => 6
  | 55 => 5
  | 56 => 5
  | 57 => 6
  | 58 => 3
  | 59 => 2
  | 60 => 3
  | 61 => 6
  | 62 => 2
  | 63 => 3
  | 64 => 4
  | 65 => 4
  | 66 => 2
  | 67 => 6
  | 68 => 3
  | 69 => 10
  | 70 => 5
  | 71 => 7
  | 72 => 3
  | 73 => 4
  | 74 => 6
  | 75 => 1
  | 76 => 4
  | 77 => 5
  | 78 => 5
  | 79 => 4
  | 80 => 4
  | 81 => 7
  | 82 => 2
  | 83 => 2
  | 84 => 8
  | 85 => 1
  | 86 => 3
  | 87 => 4
  | 88 => 4
  | 89 => 2
  | 90 => 2
  | 91 => 2
  | 92 => 3
  | 93 => 1
  | 94 => 7
  | 95 => 5
  | 96 => 2
  | 97 => 1
  | 98 => 1
  | 99 => 1
  | 100 => 1
  | 101 => 7
  | 102 => 2
  | 103 => 2
  | 104 => 2
  | 105 => 2
  | 106 => 3
  | 107 => 3
  | 108 => 2
  | 109 => 2
  | 110 => 2
  | 111 => 3
  | 112 => 5
  | 113 => 5
  | 114 => 4
  | 115 => 4
  | 116 => 4
  | 117 => 3
  | 118 => 3
  | 119 => 1
  | 120 => 3
  | 121 => 1
  | 122 => 2
  | 123 => 2
  | 124 => 1
  | 125 => 8
  | 126 => 3
  | 127 => 3
  | 128 => 5
  | 129 => 5
  | 130 => 4
  | 131 => 5
  | 132 => 4
  | 133 => 3
  | 134 => 2
  | 135 => 6
  | 136 => 5
  | 137 => 11
  | 138 => 4
  | 139 => 2
  | 140 => 3
  | 141 => 2
  | 142 => 11
  | 143 => 1
  | 144 => 3
  | 145 => 3
  | 146 => 3
  | 147 => 2
  | 148 => 7
  | 149 => 7
  | 150 => 2
  | 151 => 1
  | 152 => 2
  | 153 => 2
  | 154 => 3
  | 155 => 2
  | 156 => 3
  | 157 => 1
  | 158 => 1
  | 159 => 4
  | 160 => 1
  | 161 => 6
  | _ => 0
def mRet : Nat → Option FieldType := fun k => match k with
  | 0 => none
  | 1 => (some .int)
  | 2 => (some .boolean)
  | 3 => (some .boolean)
  | 4 => (some .int)
  | 5 => (some .int)
  | 6 => none
  | 7 => none
  | 8 => none
  | 9 => (some .int)
  | 10 => (some .int)
  | 11 => none
  | 12 => none
  | 13 => (some .int)
  | 14 => (some .int)
  | 15 => (some .int)
  | 16 => (some .int)
  | 17 => (some .int)
  | 18 => (some .int)
  | 19 => none
  | 20 => none
  | 21 => (some .int)
  | 22 => none
  | 23 => (some .int)
  | 24 => none
  | 25 => (some .int)
  | 26 => (some .int)
  | 27 => (some .int)
  | 28 => (some .int)
  | 29 => (some .int)
  | 30 => (some .int)
  | 31 => (some .int)
  | 32 => (some .int)
  | 33 => none
  | 34 => (some .boolean)
  | 35 => (some .boolean)
  | 36 => (some .boolean)
  | 37 => (some .int)
  | 38 => none
  | 39 => (some .int)
  | 40 => none
  | 41 => (some .boolean)
  | 42 => (some .int)
  | 43 => (some .int)
  | 44 => none
  | 45 => none
  | 46 => none
  | 47 => none
  | 48 => (some .int)
  | 49 => (some .int)
  | 50 => (some .int)
  | 51 => (some .int)
  | 52 => none
  | 53 => none
  | 54 => none
  | 55 => (some .int)
  | 56 => (some .int)
  | 57 => (some .boolean)
  | 58 => none
  | 59 => none
  | 60 => none
  | 61 => (some .int)
  | 62 => none
  | 63 => none
  | 64 => none
  | 65 => none
  | 66 => none
  | 67 => none
  | 68 => none
  | 69 => (some .boolean)
  | 70 => (some .boolean)
  | 71 => (some .int)
  | 72 => (some .int)
  | 73 => (some .int)
  | 74 => (some .int)
  | 75 => none
  | 76 => (some .int)
  | 77 => (some .int)
  | 78 => (some .int)
  | 79 => (some .boolean)
  | 80 => (some .boolean)
  | 81 => (some .int)
  | 82 => (some .int)
  | 83 => (some .int)
  | 84 => (some .int)
  | 85 => (some .int)
  | 86 => (some .boolean)
  | 87 => (some .int)
  | 88 => (some .int)
  | 89 => (some .int)
  | 90 => (some .int)
  | 91 => (some .boolean)
  | 92 => (some .boolean)
  | 93 => (some .int)
  | 94 => (some .int)
  | 95 => none
  | 96 => none
  | 97 => (some .boolean)
  | 98 => (some .boolean)
  | 99 => (some .int)
  | 100 => (some .boolean)
  | 101 => none
  | 102 => none
  | 103 => (some .boolean)
  | 104 => (some .boolean)
  | 105 => none
  | 106 => (some .boolean)
  | 107 => (some .boolean)
  | 108 => none
  | 109 => (some .boolean)
  | 110 => (some .boolean)
  | 111 => (some .int)
  | 112 => (some .int)
  | 113 => (some .int)
  | 114 => (some .boolean)
  | 115 => (some .boolean)
  | 116 => (some .boolean)
  | 117 => none
  | 118 => (some .int)
  | 119 => (some .int)
  | 120 => none
  | 121 => none
  | 122 => (some .int)
  | 123 => (some .boolean)
  | 124 => (some .boolean)
  | 125 => (some .int)
  | 126 => (some .int)
  | 127 => (some .int)
  | 128 => (some .int)
  | 129 => (some .int)
  | 130 => (some .boolean)
  | 131 => (some .boolean)
  | 132 => none
  | 133 => (some .boolean)
  | 134 => (some .int)
  | 135 => (some .int)
  | 136 => none
  | 137 => (some .boolean)
  | 138 => none
  | 139 => none
  | 140 => (some .int)
  | 141 => (some .boolean)
  | 142 => (some .int)
  | 143 => (some .int)
  | 144 => (some .boolean)
  | 145 => (some .int)
  | 146 => (some .int)
  | 147 => (some .int)
  | 148 => (some .int)
  | 149 => (some .boolean)
  | 150 => (some .char)
  | 151 => (some .boolean)
  | 152 => (some .char)
  | 153 => none
  | 154 => (some .int)
  | 155 => (some .int)
  | 156 => (some .int)
  | 157 => (some .int)
  | 158 => (some .byte)
  | 159 => (some .int)
  | 160 => (some .boolean)
  | 161 => (some .int)
  | _ => none
def mC : Nat → Nat := fun k => match k with
  | 0 => 0
  | 1 => 0
  | 2 => 0
  | 3 => 0
  | 4 => 0
  | 5 => 0
  | 6 => 0
  | 7 => 0
  | 8 => 0
  | 9 => 0
  | 10 => 0
  | 11 => 0
  | 12 => 1
  | 13 => 1
  | 14 => 1
  | 15 => 1
  | 16 => 1
  | 17 => 1
  | 18 => 1
  | 19 => 1
  | 20 => 2
  | 21 => 2
  | 22 => 2
  | 23 => 2
  | 24 => 2
  | 25 => 2
  | 26 => 2
  | 27 => 2
  | 28 => 2
  | 29 => 2
  | 30 => 2
  | 31 => 2
  | 32 => 2
  | 33 => 3
  | 34 => 3
  | 35 => 3
  | 36 => 3
  | 37 => 3
  | 38 => 3
  | 39 => 3
  | 40 => 3
  | 41 => 3
  | 42 => 3
  | 43 => 3
  | 44 => 4
  | 45 => 4
  | 46 => 4
  | 47 => 4
  | 48 => 4
  | 49 => 4
  | 50 => 4
  | 51 => 4
  | 52 => 4
  | 53 => 5
  | 54 => 5
  | 55 => 5
  | 56 => 5
  | 57 => 5
  | 58 => 6
  | 59 => 6
  | 60 => 6
  | 61 => 6
  | 62 => 6
  | 63 => 6
  | 64 => 6
  | 65 => 6
  | 66 => 6
  | 67 => 6
  | 68 => 6
  | 69 => 6
  | 70 => 6
  | 71 => 6
  | 72 => 6
  | 73 => 6
  | 74 => 6
  | 75 => 7
  | 76 => 7
  | 77 => 7
  | 78 => 7
  | 79 => 7
  | 80 => 7
  | 81 => 7
  | 82 => 7
  | 83 => 7
  | 84 => 7
  | 85 => 7
  | 86 => 7
  | 87 => 7
  | 88 => 7
  | 89 => 7
  | 90 => 7
  | 91 => 7
  | 92 => 7
  | 93 => 8
  | 94 => 8
  | 95 => 8
  | 96 => 8
  | 97 => 8
  | 98 => 8
  | 99 => 8
  | 100 => 8
  | 101 => 8
  | 102 => 8
  | 103 => 8
  | 104 => 8
  | 105 => 8
  | 106 => 8
  | 107 => 8
  | 108 => 8
  | 109 => 8
  | 110 => 8
  | 111 => 8
  | 112 => 8
  | 113 => 8
  | 114 => 8
  | 115 => 8
  | 116 => 8
  | 117 => 8
  | 118 => 8
  | 119 => 8
  | 120 => 8
  | 121 => 8
  | 122 => 8
  | 123 => 8
  | 124 => 8
  | 125 => 8
  | 126 => 8
  | 127 => 8
  | 128 => 8
  | 129 => 8
  | 130 => 8
  | 131 => 8
  | 132 => 8
  | 133 => 8
  | 134 => 8
  | 135 => 8
  | 136 => 8
  | 137 => 8
  | 138 => 8
  | 139 => 8
  | 140 => 8
  | 141 => 8
  | 142 => 8
  | 143 => 8
  | 144 => 8
  | 145 => 8
  | 146 => 8
  | 147 => 8
  | 148 => 8
  | 149 => 9
  | 150 => 10
  | 151 => 10
  | 152 => 11
  | 153 => 10
  | 154 => 12
  | 155 => 10
  | 156 => 10
  | 157 => 10
  | 158 => 10
  | 159 => 11
  | 160 => 11
  | 161 => 11
  | _ => 99
def mPar : Nat → Nat := fun k => match k with
  | 0 => 1
  | 1 => 5
  | 2 => 2
  | 3 => 2
  | 4 => 2
  | 5 => 2
  | 6 => 4
  | 7 => 3
  | 8 => 3
  | 9 => 1
  | 10 => 1
  | 11 => 2
  | 12 => 1
  | 13 => 5
  | 14 => 5
  | 15 => 2
  | 16 => 2
  | 17 => 1
  | 18 => 2
  | 19 => 2
  | 20 => 1
  | 21 => 3
  | 22 => 2
  | 23 => 3
  | 24 => 4
  | 25 => 1
  | 26 => 1
  | 27 => 2
  | 28 => 3
  | 29 => 3
  | 30 => 2
  | 31 => 2
  | 32 => 2
  | 33 => 1
  | 34 => 2
  | 35 => 2
  | 36 => 2
  | 37 => 3
  | 38 => 4
  | 39 => 4
  | 40 => 4
  | 41 => 3
  | 42 => 2
  | 43 => 2
  | 44 => 1
  | 45 => 1
  | 46 => 3
  | 47 => 3
  | 48 => 2
  | 49 => 2
  | 50 => 2
  | 51 => 2
  | 52 => 2
  | 53 => 1
  | 54 => 2
  | 55 => 4
  | 56 => 3
  | 57 => 4
  | 58 => 3
  | 59 => 2
  | 60 => 2
  | 61 => 3
  | 62 => 1
  | 63 => 2
  | 64 => 2
  | 65 => 4
  | 66 => 2
  | 67 => 4
  | 68 => 2
  | 69 => 3
  | 70 => 2
  | 71 => 3
  | 72 => 3
  | 73 => 4
  | 74 => 2
  | 75 => 1
  | 76 => 3
  | 77 => 5
  | 78 => 5
  | 79 => 4
  | 80 => 4
  | 81 => 4
  | 82 => 1
  | 83 => 2
  | 84 => 4
  | 85 => 1
  | 86 => 3
  | 87 => 3
  | 88 => 3
  | 89 => 2
  | 90 => 2
  | 91 => 2
  | 92 => 3
  | 93 => 1
  | 94 => 4
  | 95 => 2
  | 96 => 1
  | 97 => 1
  | 98 => 1
  | 99 => 1
  | 100 => 1
  | 101 => 1
  | 102 => 2
  | 103 => 2
  | 104 => 2
  | 105 => 2
  | 106 => 2
  | 107 => 2
  | 108 => 2
  | 109 => 2
  | 110 => 2
  | 111 => 3
  | 112 => 5
  | 113 => 5
  | 114 => 4
  | 115 => 4
  | 116 => 2
  | 117 => 3
  | 118 => 3
  | 119 => 1
  | 120 => 1
  | 121 => 1
  | 122 => 1
  | 123 => 1
  | 124 => 1
  | 125 => 3
  | 126 => 3
  | 127 => 3
  | 128 => 3
  | 129 => 2
  | 130 => 2
  | 131 => 2
  | 132 => 2
  | 133 => 3
  | 134 => 2
  | 135 => 3
  | 136 => 3
  | 137 => 2
  | 138 => 2
  | 139 => 1
  | 140 => 2
  | 141 => 2
  | 142 => 4
  | 143 => 1
  | 144 => 3
  | 145 => 3
  | 146 => 3
  | 147 => 2
  | 148 => 2
  | 149 => 1
  | 150 => 2
  | 151 => 1
  | 152 => 2
  | 153 => 2
  | 154 => 3
  | 155 => 2
  | 156 => 3
  | 157 => 1
  | 158 => 1
  | 159 => 4
  | 160 => 1
  | 161 => 4
  | _ => 0
def mKd : Nat → Nat := fun k => match k with
  | 0 => 2
  | 1 => 0
  | 2 => 0
  | 3 => 0
  | 4 => 0
  | 5 => 0
  | 6 => 0
  | 7 => 0
  | 8 => 0
  | 9 => 0
  | 10 => 0
  | 11 => 0
  | 12 => 2
  | 13 => 0
  | 14 => 0
  | 15 => 0
  | 16 => 0
  | 17 => 0
  | 18 => 0
  | 19 => 0
  | 20 => 2
  | 21 => 0
  | 22 => 0
  | 23 => 1
  | 24 => 0
  | 25 => 0
  | 26 => 0
  | 27 => 0
  | 28 => 0
  | 29 => 0
  | 30 => 0
  | 31 => 0
  | 32 => 0
  | 33 => 2
  | 34 => 0
  | 35 => 0
  | 36 => 0
  | 37 => 0
  | 38 => 0
  | 39 => 0
  | 40 => 0
  | 41 => 0
  | 42 => 0
  | 43 => 0
  | 44 => 2
  | 45 => 0
  | 46 => 0
  | 47 => 0
  | 48 => 0
  | 49 => 0
  | 50 => 0
  | 51 => 0
  | 52 => 0
  | 53 => 2
  | 54 => 0
  | 55 => 0
  | 56 => 0
  | 57 => 0
  | 58 => 2
  | 59 => 0
  | 60 => 0
  | 61 => 0
  | 62 => 0
  | 63 => 0
  | 64 => 0
  | 65 => 0
  | 66 => 0
  | 67 => 0
  | 68 => 0
  | 69 => 0
  | 70 => 0
  | 71 => 0
  | 72 => 1
  | 73 => 0
  | 74 => 0
  | 75 => 2
  | 76 => 0
  | 77 => 0
  | 78 => 0
  | 79 => 0
  | 80 => 0
  | 81 => 0
  | 82 => 0
  | 83 => 0
  | 84 => 0
  | 85 => 0
  | 86 => 0
  | 87 => 0
  | 88 => 0
  | 89 => 0
  | 90 => 0
  | 91 => 0
  | 92 => 1
  | 93 => 0
  | 94 => 0
  | 95 => 0
  | 96 => 2
  | 97 => 1
  | 98 => 1
  | 99 => 1
  | 100 => 1
  | 101 => 0
  | 102 => 0
  | 103 => 0
  | 104 => 0
  | 105 => 0
  | 106 => 0
  | 107 => 0
  | 108 => 0
  | 109 => 0
  | 110 => 0
  | 111 => 0
  | 112 => 0
  | 113 => 0
  | 114 => 0
  | 115 => 0
  | 116 => 0
  | 117 => 0
  | 118 => 0
  | 119 => 0
  | 120 => 0
  | 121 => 0
  | 122 => 0
  | 123 => 0
  | 124 => 0
  | 125 => 0
  | 126 => 0
  | 127 => 0
  | 128 => 0
  | 129 => 0
  | 130 => 0
  | 131 => 0
  | 132 => 0
  | 133 => 0
  | 134 => 0
  | 135 => 0
  | 136 => 0
  | 137 => 0
  | 138 => 0
  | 139 => 0
  | 140 => 0
  | 141 => 0
  | 142 => 0
  | 143 => 0
  | 144 => 0
  | 145 => 0
  | 146 => 0
  | 147 => 0
  | 148 => 0
  | 149 => 1
  | 150 => 0
  | 151 => 0
  | 152 => 1
  | 153 => 1
  | 154 => 1
  | 155 => 0
  | 156 => 0
  | 157 => 0
  | 158 => 0
  | 159 => 1
  | 160 => 1
  | 161 => 1
  | _ => 9
def mLS : Nat → List Nat := fun k => match k with
  | 54 => [1]
  | 81 => [1, 3, 5]
  | 94 => [1, 3, 5]
  | 95 => [1]
  | 101 => [5]
  | _ => []
def rk0 : Nat → Nat := fun k => match k with
  | 0 => 1
  | 1 => 1
  | 2 => 1
  | 3 => 1
  | 4 => 1
  | 5 => 1
  | 6 => 1
  | 7 => 1
  | 8 => 1
  | 9 => 1
  | 10 => 1
  | 11 => 1
  | 12 => 1
  | 13 => 1
  | 14 => 2
  | 15 => 1
  | 16 => 1
  | 17 => 1
  | 18 => 1
  | 19 => 1
  | 20 => 2
  | 21 => 34
  | 22 => 7
  | 23 => 6
  | 24 => 1
  | 25 => 1
  | 26 => 1
  | 27 => 2
  | 28 => 2
  | 29 => 33
  | 30 => 32
  | 31 => 32
  | 32 => 32
  | 33 => 1
  | 34 => 1
  | 35 => 1
  | 36 => 1
  | 37 => 1
  | 38 => 1
  | 39 => 1
  | 40 => 1
  | 41 => 1
  | 42 => 2
  | 43 => 2
  | 44 => 1
  | 45 => 1
  | 46 => 1
  | 47 => 1
  | 48 => 1
  | 49 => 1
  | 50 => 1
  | 51 => 1
  | 52 => 1
  | 53 => 1
  | 54 => 1
  | 55 => 1
  | 56 => 1
  | 57 => 5
  | 58 => 2
  | 59 => 2
  | 60 => 7
  | 61 => 7
  | 62 => 6
  | 63 => 3
  | 64 => 2
  | 65 => 1
  | 66 => 4
  | 67 => 3
  | 68 => 5
  | 69 => 3
  | 70 => 4
  | 71 => 3
  | 72 => 1
  | 73 => 2
  | 74 => 1
  | 75 => 3
  | 76 => 2
  | 77 => 2
  | 78 => 2
  | 79 => 2
  | 80 => 2
  | 81 => 2
  | 82 => 35
  | 83 => 8
  | 84 => 8
  | 85 => 1
  | 86 => 2
  | 87 => 8
  | 88 => 8
  | 89 => 2
  | 90 => 2
  | 91 => 1
  | 92 => 1
  | 93 => 1
  | 94 => 2
  | 95 => 1
  | 96 => 1
  | 97 => 1
  | 98 => 1
  | 99 => 2
  | 100 => 1
  | 101 => 3
  | 102 => 1
  | 103 => 1
  | 104 => 1
  | 105 => 2
  | 106 => 2
  | 107 => 2
  | 108 => 3
  | 109 => 1
  | 110 => 1
  | 111 => 1
  | 112 => 1
  | 113 => 2
  | 114 => 2
  | 115 => 1
  | 116 => 1
  | 117 => 1
  | 118 => 2
  | 119 => 5
  | 120 => 4
  | 121 => 1
  | 122 => 2
  | 123 => 3
  | 124 => 3
  | 125 => 3
  | 126 => 1
  | 127 => 2
  | 128 => 1
  | 129 => 1
  | 130 => 1
  | 131 => 4
  | 132 => 1
  | 133 => 1
  | 134 => 1
  | 135 => 2
  | 136 => 3
  | 137 => 2
  | 138 => 5
  | 139 => 6
  | 140 => 7
  | 141 => 1
  | 142 => 7
  | 143 => 1
  | 144 => 2
  | 145 => 2
  | 146 => 1
  | 147 => 2
  | 148 => 1
  | 149 => 46
  | 150 => 4
  | 151 => 1
  | 152 => 3
  | 153 => 2
  | 154 => 1
  | 155 => 4
  | 156 => 3
  | 157 => 2
  | 158 => 1
  | 159 => 2
  | 160 => 1
  | 161 => 1
  | _ => 0
def rk (k d : Nat) : Nat := if k = 30 then 3 + 3 * (9 - d) + 2 else if k = 31 then 3 + 3 * (9 - d) + 1 else if k = 32 then 3 + 3 * (9 - d) else rk0 k
def dep (k : Nat) (as : List Value) : Nat := if k = 30 ∨ k = 31 ∨ k = 32 then (match as with | [_, .int v] => v.toNatClampNeg | _ => 0) else 0
def lw_g : List Cond := lw_tbl.filter goodWord
theorem g_in {p : Nat} {w : Cond} (h : lw_tbl[p]? = some w) (g : goodWord w = true) : w ∈ lw_g := List.mem_filter.mpr ⟨List.mem_of_getElem? h, g⟩
def mPos : Nat → Nat × Nat × Nat × Nat := fun k => match k with
  | 0 => (213, 212, 0, 67)
  | 1 => (393, 391, 392, 67)
  | 2 => (770, 768, 769, 67)
  | 3 => (751, 749, 750, 67)
  | 4 => (693, 691, 692, 67)
  | 5 => (646, 644, 645, 67)
  | 6 => (650, 648, 649, 67)
  | 7 => (762, 760, 761, 67)
  | 8 => (662, 660, 661, 67)
  | 9 => (810, 808, 809, 67)
  | 10 => (822, 820, 821, 67)
  | 11 => (778, 776, 777, 67)
  | 12 => (282, 281, 0, 68)
  | 13 => (405, 403, 404, 68)
  | 14 => (674, 672, 673, 68)
  | 15 => (678, 677, 17, 68)
  | 16 => (685, 683, 684, 68)
  | 17 => (814, 812, 813, 68)
  | 18 => (818, 816, 817, 68)
  | 19 => (783, 781, 782, 68)
  | 20 => (179, 178, 0, 65)
  | 21 => (441, 439, 440, 65)
  | 22 => (445, 444, 1, 65)
  | 23 => (455, 454, 0, 65)
  | 24 => (504, 503, 2, 65)
  | 25 => (581, 580, 3, 65)
  | 26 => (593, 592, 6, 65)
  | 27 => (589, 588, 5, 65)
  | 28 => (597, 596, 7, 65)
  | 29 => (585, 584, 4, 65)
  | 30 => (602, 601, 8, 65)
  | 31 => (606, 605, 9, 65)
  | 32 => (610, 609, 10, 65)
  | 33 => (93, 92, 0, 62)
  | 34 => (401, 399, 400, 62)
  | 35 => (421, 419, 420, 62)
  | 36 => (710, 708, 709, 62)
  | 37 => (381, 379, 380, 62)
  | 38 => (413, 411, 412, 62)
  | 39 => (755, 753, 754, 62)
  | 40 => (425, 423, 424, 62)
  | 41 => (698, 696, 697, 62)
  | 42 => (706, 704, 705, 62)
  | 43 => (714, 712, 713, 62)
  | 44 => (150, 149, 0, 64)
  | 45 => (577, 575, 576, 64)
  | 46 => (614, 612, 613, 64)
  | 47 => (618, 616, 617, 64)
  | 48 => (731, 729, 730, 64)
  | 49 => (727, 725, 726, 64)
  | 50 => (735, 733, 734, 64)
  | 51 => (739, 737, 738, 64)
  | 52 => (622, 620, 621, 64)
  | 53 => (133, 132, 0, 63)
  | 54 => (433, 431, 432, 63)
  | 55 => (449, 447, 448, 63)
  | 56 => (508, 506, 507, 63)
  | 57 => (459, 457, 458, 63)
  | 58 => (207, 206, 0, 66)
  | 59 => (774, 772, 773, 66)
  | 60 => (634, 632, 633, 66)
  | 61 => (788, 786, 787, 66)
  | 62 => (638, 637, 11, 66)
  | 63 => (642, 641, 12, 66)
  | 64 => (654, 653, 13, 66)
  | 65 => (658, 657, 14, 66)
  | 66 => (666, 665, 15, 66)
  | 67 => (670, 669, 16, 66)
  | 68 => (689, 688, 18, 66)
  | 69 => (702, 701, 19, 66)
  | 70 => (719, 718, 20, 66)
  | 71 => (723, 722, 21, 66)
  | 72 => (758, 757, 0, 66)
  | 73 => (743, 742, 22, 66)
  | 74 => (747, 746, 23, 66)
  | 75 => (85, 84, 0, 61)
  | 76 => (374, 372, 373, 61)
  | 77 => (385, 383, 384, 61)
  | 78 => (397, 395, 396, 61)
  | 79 => (409, 407, 408, 61)
  | 80 => (417, 415, 416, 61)
  | 81 => (429, 427, 428, 61)
  | 82 => (437, 435, 436, 61)
  | 83 => (630, 628, 629, 61)
  | 84 => (766, 764, 765, 61)
  | 85 => (793, 791, 792, 61)
  | 86 => (797, 795, 796, 61)
  | 87 => (830, 828, 829, 61)
  | 88 => (903, 901, 902, 61)
  | 89 => (801, 799, 800, 61)
  | 90 => (806, 804, 805, 61)
  | 91 => (389, 388, 0, 61)
  | 92 => (377, 376, 0, 61)
  | 93 => (909, 907, 908, 69)
  | 94 => (913, 911, 912, 69)
  | 95 => (918, 916, 25, 69)
  | 96 => (922, 921, 0, 69)
  | 97 => (1112, 1111, 0, 69)
  | 98 => (1119, 1118, 0, 69)
  | 99 => (1116, 1115, 0, 69)
  | 100 => (1124, 1123, 0, 69)
  | 101 => (1109, 1108, 27, 69)
  | 102 => (1136, 1135, 30, 69)
  | 103 => (1164, 1163, 37, 69)
  | 104 => (1132, 1131, 29, 69)
  | 105 => (1180, 1179, 41, 69)
  | 106 => (1168, 1167, 38, 69)
  | 107 => (1148, 1147, 33, 69)
  | 108 => (1144, 1143, 32, 69)
  | 109 => (1093, 1092, 26, 69)
  | 110 => (1252, 1251, 58, 69)
  | 111 => (1081, 1079, 1080, 69)
  | 112 => (1085, 1083, 1084, 69)
  | 113 => (1089, 1087, 1088, 69)
  | 114 => (1097, 1095, 1096, 69)
  | 115 => (1101, 1099, 1100, 69)
  | 116 => (1244, 1243, 56, 69)
  | 117 => (1172, 1171, 39, 69)
  | 118 => (1140, 1139, 31, 69)
  | 119 => (1105, 1103, 1104, 69)
  | 120 => (1128, 1127, 28, 69)
  | 121 => (1152, 1151, 34, 69)
  | 122 => (1160, 1159, 36, 69)
  | 123 => (1156, 1155, 35, 69)
  | 124 => (1176, 1175, 40, 69)
  | 125 => (1224, 1223, 51, 69)
  | 126 => (1228, 1227, 52, 69)
  | 127 => (1232, 1231, 53, 69)
  | 128 => (1204, 1203, 46, 69)
  | 129 => (1236, 1235, 54, 69)
  | 130 => (1240, 1239, 55, 69)
  | 131 => (1220, 1219, 50, 69)
  | 132 => (1192, 1191, 43, 69)
  | 133 => (1212, 1211, 48, 69)
  | 134 => (1216, 1215, 49, 69)
  | 135 => (1208, 1207, 47, 69)
  | 136 => (1200, 1199, 45, 69)
  | 137 => (1248, 1247, 57, 69)
  | 138 => (1196, 1195, 44, 69)
  | 139 => (1188, 1187, 42, 69)
  | 140 => (1184, 1182, 1183, 69)
  | 141 => (1260, 1259, 59, 69)
  | 142 => (1256, 1254, 1255, 69)
  | 143 => (1264, 1262, 1263, 69)
  | 144 => (1268, 1266, 1267, 69)
  | 145 => (1272, 1270, 1271, 69)
  | 146 => (1276, 1274, 1275, 69)
  | 147 => (1280, 1278, 1279, 69)
  | 148 => (1284, 1282, 1283, 69)
  | 149 => (0, 0, 0, 0)
  | 150 => (464, 462, 463, 71)
  | 151 => (468, 466, 467, 71)
  | 152 => (473, 472, 0, 72)
  | 153 => (476, 475, 0, 71)
  | 154 => (481, 480, 0, 73)
  | 155 => (513, 511, 512, 71)
  | 156 => (517, 515, 516, 71)
  | 157 => (521, 519, 520, 71)
  | 158 => (525, 523, 524, 71)
  | 159 => (528, 527, 0, 72)
  | 160 => (531, 530, 0, 72)
  | 161 => (538, 537, 0, 72)
  | _ => (0, 0, 0, 0)
def isW (p : Nat) (w : Cond) : Bool := decide (lw_tbl[p]? = some w) && goodWord w
theorem isW_in {p : Nat} {w : Cond} (h : isW p w = true) : w ∈ lw_g := by
  simp only [isW, Bool.and_eq_true, decide_eq_true_eq] at h
  exact g_in h.1 h.2
def mChk (k : Nat) : Bool := isW (mPos k).2.1 (if mKd k = 1 then .static (mY k) else .instanceMethod (mY k)) && (decide (mKd k ≠ 0) || isW (mPos k).2.2.1 (.selects (clsN (mC k)) (mY k) (mY k))) && isW (mPos k).2.2.2 (.initialized (clsN (mC k))) && plainName (mY k).cls && decide ((mY k).cls = clsN (mC k)) && decide ((mY k).cls ≠ "java/lang/invoke/MethodHandle") && decide ((mY k).cls ≠ "java/lang/invoke/VarHandle") && decide ((parseMethodDescriptor (mY k).desc).map (fun d => d.parameters.length) = some (if mKd k = 1 then mPar k else mPar k - 1)) && decide (mML k ≤ 30) && decide (mKd k = 2 → (mY k).name = "<init>") && decide (mKd k ≤ 2) && decide (mKd k = 1 ∨ 1 ≤ mPar k) && decide (1 ≤ rk0 k) && decide (mKd k = 2 → mRet k = none)
theorem mChk_0 : ([0, 1, 2, 3, 4, 5, 6, 7, 8, 9, 10, 11, 12, 13, 14, 15, 16, 17, 18, 19, 20, 21, 22, 23, 24, 25, 26, 27, 28, 29, 30, 31, 32, 33, 34, 35, 36, 37, 38, 39] : List Nat).all mChk = true := by decide +kernel
theorem mChk_1 : ([40, 41, 42, 43, 44, 45, 46, 47, 48, 49, 50, 51, 52, 53, 54, 55, 56, 57, 58, 59, 60, 61, 62, 63, 64, 65, 66, 67, 68, 69, 70, 71, 72, 73, 74, 75, 76, 77, 78, 79] : List Nat).all mChk = true := by decide +kernel
theorem mChk_2 : ([80, 81, 82, 83, 84, 85, 86, 87, 88, 89, 90, 91, 92, 93, 94, 95, 96, 97, 98, 99, 100, 101, 102, 103, 104, 105, 106, 107, 108, 109, 110, 111, 112, 113, 114, 115, 116, 117, 118, 119] : List Nat).all mChk = true := by decide +kernel
theorem mChk_3 : ([120, 121, 122, 123, 124, 125, 126, 127, 128, 129, 130, 131, 132, 133, 134, 135, 136, 137, 138, 139, 140, 141, 142, 143, 144, 145, 146, 147, 148, 150, 151, 152, 153, 154, 155, 156, 157, 158, 159, 160] : List Nat).all mChk = true := by decide +kernel
theorem mChk_4 : ([161] : List Nat).all mChk = true := by decide +kernel
def mAll : List Nat := [0, 1, 2, 3, 4, 5, 6, 7, 8, 9, 10, 11, 12, 13, 14, 15, 16, 17, 18, 19, 20, 21, 22, 23, 24, 25, 26, 27, 28, 29, 30, 31, 32, 33, 34, 35, 36, 37, 38, 39] ++ [40, 41, 42, 43, 44, 45, 46, 47, 48, 49, 50, 51, 52, 53, 54, 55, 56, 57, 58, 59, 60, 61, 62, 63, 64, 65, 66, 67, 68, 69, 70, 71, 72, 73, 74, 75, 76, 77, 78, 79] ++ [80, 81, 82, 83, 84, 85, 86, 87, 88, 89, 90, 91, 92, 93, 94, 95, 96, 97, 98, 99, 100, 101, 102, 103, 104, 105, 106, 107, 108, 109, 110, 111, 112, 113, 114, 115, 116, 117, 118, 119] ++ [120, 121, 122, 123, 124, 125, 126, 127, 128, 129, 130, 131, 132, 133, 134, 135, 136, 137, 138, 139, 140, 141, 142, 143, 144, 145, 146, 147, 148, 150, 151, 152, 153, 154, 155, 156, 157, 158, 159, 160] ++ [161]
theorem mChk_all {k : Nat} (h : k ∈ mAll) : mChk k = true := by
  simp only [mAll, List.mem_append] at h
  rcases h with (((h | h) | h) | h) | h
  · exact List.all_eq_true.mp mChk_0 k h
  · exact List.all_eq_true.mp mChk_1 k h
  · exact List.all_eq_true.mp mChk_2 k h
  · exact List.all_eq_true.mp mChk_3 k h
  · exact List.all_eq_true.mp mChk_4 k h
set_option maxRecDepth 40000 in
theorem mw_0 : lw_tbl[213]? = some (.code (mY 0) (mCode 0) (mML 0) (mRet 0)) := rfl
set_option maxRecDepth 40000 in
theorem mw_1 : lw_tbl[393]? = some (.code (mY 1) (mCode 1) (mML 1) (mRet 1)) := rfl
set_option maxRecDepth 40000 in
theorem mw_2 : lw_tbl[770]? = some (.code (mY 2) (mCode 2) (mML 2) (mRet 2)) := rfl
set_option maxRecDepth 40000 in
theorem mw_3 : lw_tbl[751]? = some (.code (mY 3) (mCode 3) (mML 3) (mRet 3)) := rfl
set_option maxRecDepth 40000 in
theorem mw_4 : lw_tbl[693]? = some (.code (mY 4) (mCode 4) (mML 4) (mRet 4)) := rfl
set_option maxRecDepth 40000 in
theorem mw_5 : lw_tbl[646]? = some (.code (mY 5) (mCode 5) (mML 5) (mRet 5)) := rfl
set_option maxRecDepth 40000 in
theorem mw_6 : lw_tbl[650]? = some (.code (mY 6) (mCode 6) (mML 6) (mRet 6)) := rfl
set_option maxRecDepth 40000 in
theorem mw_7 : lw_tbl[762]? = some (.code (mY 7) (mCode 7) (mML 7) (mRet 7)) := rfl
set_option maxRecDepth 40000 in
theorem mw_8 : lw_tbl[662]? = some (.code (mY 8) (mCode 8) (mML 8) (mRet 8)) := rfl
set_option maxRecDepth 40000 in
theorem mw_9 : lw_tbl[810]? = some (.code (mY 9) (mCode 9) (mML 9) (mRet 9)) := rfl
set_option maxRecDepth 40000 in
theorem mw_10 : lw_tbl[822]? = some (.code (mY 10) (mCode 10) (mML 10) (mRet 10)) := rfl
set_option maxRecDepth 40000 in
theorem mw_11 : lw_tbl[778]? = some (.code (mY 11) (mCode 11) (mML 11) (mRet 11)) := rfl
set_option maxRecDepth 40000 in
theorem mw_12 : lw_tbl[282]? = some (.code (mY 12) (mCode 12) (mML 12) (mRet 12)) := rfl
set_option maxRecDepth 40000 in
theorem mw_13 : lw_tbl[405]? = some (.code (mY 13) (mCode 13) (mML 13) (mRet 13)) := rfl
set_option maxRecDepth 40000 in
theorem mw_14 : lw_tbl[674]? = some (.code (mY 14) (mCode 14) (mML 14) (mRet 14)) := rfl
set_option maxRecDepth 40000 in
theorem mw_15 : lw_tbl[678]? = some (.code (mY 15) (mCode 15) (mML 15) (mRet 15)) := rfl
set_option maxRecDepth 40000 in
theorem mw_16 : lw_tbl[685]? = some (.code (mY 16) (mCode 16) (mML 16) (mRet 16)) := rfl
set_option maxRecDepth 40000 in
theorem mw_17 : lw_tbl[814]? = some (.code (mY 17) (mCode 17) (mML 17) (mRet 17)) := rfl
set_option maxRecDepth 40000 in
theorem mw_18 : lw_tbl[818]? = some (.code (mY 18) (mCode 18) (mML 18) (mRet 18)) := rfl
set_option maxRecDepth 40000 in
theorem mw_19 : lw_tbl[783]? = some (.code (mY 19) (mCode 19) (mML 19) (mRet 19)) := rfl
set_option maxRecDepth 40000 in
theorem mw_20 : lw_tbl[179]? = some (.code (mY 20) (mCode 20) (mML 20) (mRet 20)) := rfl
set_option maxRecDepth 40000 in
theorem mw_21 : lw_tbl[441]? = some (.code (mY 21) (mCode 21) (mML 21) (mRet 21)) := rfl
set_option maxRecDepth 40000 in
theorem mw_22 : lw_tbl[445]? = some (.code (mY 22) (mCode 22) (mML 22) (mRet 22)) := rfl
set_option maxRecDepth 40000 in
theorem mw_23 : lw_tbl[455]? = some (.code (mY 23) (mCode 23) (mML 23) (mRet 23)) := rfl
set_option maxRecDepth 40000 in
theorem mw_24 : lw_tbl[504]? = some (.code (mY 24) (mCode 24) (mML 24) (mRet 24)) := rfl
set_option maxRecDepth 40000 in
theorem mw_25 : lw_tbl[581]? = some (.code (mY 25) (mCode 25) (mML 25) (mRet 25)) := rfl
set_option maxRecDepth 40000 in
theorem mw_26 : lw_tbl[593]? = some (.code (mY 26) (mCode 26) (mML 26) (mRet 26)) := rfl
set_option maxRecDepth 40000 in
theorem mw_27 : lw_tbl[589]? = some (.code (mY 27) (mCode 27) (mML 27) (mRet 27)) := rfl
set_option maxRecDepth 40000 in
theorem mw_28 : lw_tbl[597]? = some (.code (mY 28) (mCode 28) (mML 28) (mRet 28)) := rfl
set_option maxRecDepth 40000 in
theorem mw_29 : lw_tbl[585]? = some (.code (mY 29) (mCode 29) (mML 29) (mRet 29)) := rfl
set_option maxRecDepth 40000 in
theorem mw_30 : lw_tbl[602]? = some (.code (mY 30) (mCode 30) (mML 30) (mRet 30)) := rfl
set_option maxRecDepth 40000 in
theorem mw_31 : lw_tbl[606]? = some (.code (mY 31) (mCode 31) (mML 31) (mRet 31)) := rfl
set_option maxRecDepth 40000 in
theorem mw_32 : lw_tbl[610]? = some (.code (mY 32) (mCode 32) (mML 32) (mRet 32)) := rfl
set_option maxRecDepth 40000 in
theorem mw_33 : lw_tbl[93]? = some (.code (mY 33) (mCode 33) (mML 33) (mRet 33)) := rfl
set_option maxRecDepth 40000 in
theorem mw_34 : lw_tbl[401]? = some (.code (mY 34) (mCode 34) (mML 34) (mRet 34)) := rfl
set_option maxRecDepth 40000 in
theorem mw_35 : lw_tbl[421]? = some (.code (mY 35) (mCode 35) (mML 35) (mRet 35)) := rfl
set_option maxRecDepth 40000 in
theorem mw_36 : lw_tbl[710]? = some (.code (mY 36) (mCode 36) (mML 36) (mRet 36)) := rfl
set_option maxRecDepth 40000 in
theorem mw_37 : lw_tbl[381]? = some (.code (mY 37) (mCode 37) (mML 37) (mRet 37)) := rfl
set_option maxRecDepth 40000 in
theorem mw_38 : lw_tbl[413]? = some (.code (mY 38) (mCode 38) (mML 38) (mRet 38)) := rfl
set_option maxRecDepth 40000 in
theorem mw_39 : lw_tbl[755]? = some (.code (mY 39) (mCode 39) (mML 39) (mRet 39)) := rfl
set_option maxRecDepth 40000 in
theorem mw_40 : lw_tbl[425]? = some (.code (mY 40) (mCode 40) (mML 40) (mRet 40)) := rfl
set_option maxRecDepth 40000 in
theorem mw_41 : lw_tbl[698]? = some (.code (mY 41) (mCode 41) (mML 41) (mRet 41)) := rfl
set_option maxRecDepth 40000 in
theorem mw_42 : lw_tbl[706]? = some (.code (mY 42) (mCode 42) (mML 42) (mRet 42)) := rfl
set_option maxRecDepth 40000 in
theorem mw_43 : lw_tbl[714]? = some (.code (mY 43) (mCode 43) (mML 43) (mRet 43)) := rfl
set_option maxRecDepth 40000 in
theorem mw_44 : lw_tbl[150]? = some (.code (mY 44) (mCode 44) (mML 44) (mRet 44)) := rfl
set_option maxRecDepth 40000 in
theorem mw_45 : lw_tbl[577]? = some (.code (mY 45) (mCode 45) (mML 45) (mRet 45)) := rfl
set_option maxRecDepth 40000 in
theorem mw_46 : lw_tbl[614]? = some (.code (mY 46) (mCode 46) (mML 46) (mRet 46)) := rfl
set_option maxRecDepth 40000 in
theorem mw_47 : lw_tbl[618]? = some (.code (mY 47) (mCode 47) (mML 47) (mRet 47)) := rfl
set_option maxRecDepth 40000 in
theorem mw_48 : lw_tbl[731]? = some (.code (mY 48) (mCode 48) (mML 48) (mRet 48)) := rfl
set_option maxRecDepth 40000 in
theorem mw_49 : lw_tbl[727]? = some (.code (mY 49) (mCode 49) (mML 49) (mRet 49)) := rfl
set_option maxRecDepth 40000 in
theorem mw_50 : lw_tbl[735]? = some (.code (mY 50) (mCode 50) (mML 50) (mRet 50)) := rfl
set_option maxRecDepth 40000 in
theorem mw_51 : lw_tbl[739]? = some (.code (mY 51) (mCode 51) (mML 51) (mRet 51)) := rfl
set_option maxRecDepth 40000 in
theorem mw_52 : lw_tbl[622]? = some (.code (mY 52) (mCode 52) (mML 52) (mRet 52)) := rfl
set_option maxRecDepth 40000 in
theorem mw_53 : lw_tbl[133]? = some (.code (mY 53) (mCode 53) (mML 53) (mRet 53)) := rfl
set_option maxRecDepth 40000 in
theorem mw_54 : lw_tbl[433]? = some (.code (mY 54) (mCode 54) (mML 54) (mRet 54)) := rfl
set_option maxRecDepth 40000 in
theorem mw_55 : lw_tbl[449]? = some (.code (mY 55) (mCode 55) (mML 55) (mRet 55)) := rfl
set_option maxRecDepth 40000 in
theorem mw_56 : lw_tbl[508]? = some (.code (mY 56) (mCode 56) (mML 56) (mRet 56)) := rfl
set_option maxRecDepth 40000 in
theorem mw_57 : lw_tbl[459]? = some (.code (mY 57) (mCode 57) (mML 57) (mRet 57)) := rfl
set_option maxRecDepth 40000 in
theorem mw_58 : lw_tbl[207]? = some (.code (mY 58) (mCode 58) (mML 58) (mRet 58)) := rfl
set_option maxRecDepth 40000 in
theorem mw_59 : lw_tbl[774]? = some (.code (mY 59) (mCode 59) (mML 59) (mRet 59)) := rfl
set_option maxRecDepth 40000 in
theorem mw_60 : lw_tbl[634]? = some (.code (mY 60) (mCode 60) (mML 60) (mRet 60)) := rfl
set_option maxRecDepth 40000 in
theorem mw_61 : lw_tbl[788]? = some (.code (mY 61) (mCode 61) (mML 61) (mRet 61)) := rfl
set_option maxRecDepth 40000 in
theorem mw_62 : lw_tbl[638]? = some (.code (mY 62) (mCode 62) (mML 62) (mRet 62)) := rfl
set_option maxRecDepth 40000 in
theorem mw_63 : lw_tbl[642]? = some (.code (mY 63) (mCode 63) (mML 63) (mRet 63)) := rfl
set_option maxRecDepth 40000 in
theorem mw_64 : lw_tbl[654]? = some (.code (mY 64) (mCode 64) (mML 64) (mRet 64)) := rfl
set_option maxRecDepth 40000 in
theorem mw_65 : lw_tbl[658]? = some (.code (mY 65) (mCode 65) (mML 65) (mRet 65)) := rfl
set_option maxRecDepth 40000 in
theorem mw_66 : lw_tbl[666]? = some (.code (mY 66) (mCode 66) (mML 66) (mRet 66)) := rfl
set_option maxRecDepth 40000 in
theorem mw_67 : lw_tbl[670]? = some (.code (mY 67) (mCode 67) (mML 67) (mRet 67)) := rfl
set_option maxRecDepth 40000 in
theorem mw_68 : lw_tbl[689]? = some (.code (mY 68) (mCode 68) (mML 68) (mRet 68)) := rfl
set_option maxRecDepth 40000 in
theorem mw_69 : lw_tbl[702]? = some (.code (mY 69) (mCode 69) (mML 69) (mRet 69)) := rfl
set_option maxRecDepth 40000 in
theorem mw_70 : lw_tbl[719]? = some (.code (mY 70) (mCode 70) (mML 70) (mRet 70)) := rfl
set_option maxRecDepth 40000 in
theorem mw_71 : lw_tbl[723]? = some (.code (mY 71) (mCode 71) (mML 71) (mRet 71)) := rfl
set_option maxRecDepth 40000 in
theorem mw_72 : lw_tbl[758]? = some (.code (mY 72) (mCode 72) (mML 72) (mRet 72)) := rfl
set_option maxRecDepth 40000 in
theorem mw_73 : lw_tbl[743]? = some (.code (mY 73) (mCode 73) (mML 73) (mRet 73)) := rfl
set_option maxRecDepth 40000 in
theorem mw_74 : lw_tbl[747]? = some (.code (mY 74) (mCode 74) (mML 74) (mRet 74)) := rfl
set_option maxRecDepth 40000 in
theorem mw_75 : lw_tbl[85]? = some (.code (mY 75) (mCode 75) (mML 75) (mRet 75)) := rfl
set_option maxRecDepth 40000 in
theorem mw_76 : lw_tbl[374]? = some (.code (mY 76) (mCode 76) (mML 76) (mRet 76)) := rfl
set_option maxRecDepth 40000 in
theorem mw_77 : lw_tbl[385]? = some (.code (mY 77) (mCode 77) (mML 77) (mRet 77)) := rfl
set_option maxRecDepth 40000 in
theorem mw_78 : lw_tbl[397]? = some (.code (mY 78) (mCode 78) (mML 78) (mRet 78)) := rfl
set_option maxRecDepth 40000 in
theorem mw_79 : lw_tbl[409]? = some (.code (mY 79) (mCode 79) (mML 79) (mRet 79)) := rfl
set_option maxRecDepth 40000 in
theorem mw_80 : lw_tbl[417]? = some (.code (mY 80) (mCode 80) (mML 80) (mRet 80)) := rfl
set_option maxRecDepth 40000 in
theorem mw_81 : lw_tbl[429]? = some (.code (mY 81) (mCode 81) (mML 81) (mRet 81)) := rfl
set_option maxRecDepth 40000 in
theorem mw_82 : lw_tbl[437]? = some (.code (mY 82) (mCode 82) (mML 82) (mRet 82)) := rfl
set_option maxRecDepth 40000 in
theorem mw_83 : lw_tbl[630]? = some (.code (mY 83) (mCode 83) (mML 83) (mRet 83)) := rfl
set_option maxRecDepth 40000 in
theorem mw_84 : lw_tbl[766]? = some (.code (mY 84) (mCode 84) (mML 84) (mRet 84)) := rfl
set_option maxRecDepth 40000 in
theorem mw_85 : lw_tbl[793]? = some (.code (mY 85) (mCode 85) (mML 85) (mRet 85)) := rfl
set_option maxRecDepth 40000 in
theorem mw_86 : lw_tbl[797]? = some (.code (mY 86) (mCode 86) (mML 86) (mRet 86)) := rfl
set_option maxRecDepth 40000 in
theorem mw_87 : lw_tbl[830]? = some (.code (mY 87) (mCode 87) (mML 87) (mRet 87)) := rfl
set_option maxRecDepth 40000 in
theorem mw_88 : lw_tbl[903]? = some (.code (mY 88) (mCode 88) (mML 88) (mRet 88)) := rfl
set_option maxRecDepth 40000 in
theorem mw_89 : lw_tbl[801]? = some (.code (mY 89) (mCode 89) (mML 89) (mRet 89)) := rfl
set_option maxRecDepth 40000 in
theorem mw_90 : lw_tbl[806]? = some (.code (mY 90) (mCode 90) (mML 90) (mRet 90)) := rfl
set_option maxRecDepth 40000 in
theorem mw_91 : lw_tbl[389]? = some (.code (mY 91) (mCode 91) (mML 91) (mRet 91)) := rfl
set_option maxRecDepth 40000 in
theorem mw_92 : lw_tbl[377]? = some (.code (mY 92) (mCode 92) (mML 92) (mRet 92)) := rfl
set_option maxRecDepth 40000 in
theorem mw_93 : lw_tbl[909]? = some (.code (mY 93) (mCode 93) (mML 93) (mRet 93)) := rfl
set_option maxRecDepth 40000 in
theorem mw_94 : lw_tbl[913]? = some (.code (mY 94) (mCode 94) (mML 94) (mRet 94)) := rfl
set_option maxRecDepth 40000 in
theorem mw_95 : lw_tbl[918]? = some (.code (mY 95) (mCode 95) (mML 95) (mRet 95)) := rfl
set_option maxRecDepth 40000 in
theorem mw_96 : lw_tbl[922]? = some (.code (mY 96) (mCode 96) (mML 96) (mRet 96)) := rfl
set_option maxRecDepth 40000 in
theorem mw_97 : lw_tbl[1112]? = some (.code (mY 97) (mCode 97) (mML 97) (mRet 97)) := rfl
set_option maxRecDepth 40000 in
theorem mw_98 : lw_tbl[1119]? = some (.code (mY 98) (mCode 98) (mML 98) (mRet 98)) := rfl
set_option maxRecDepth 40000 in
theorem mw_99 : lw_tbl[1116]? = some (.code (mY 99) (mCode 99) (mML 99) (mRet 99)) := rfl
set_option maxRecDepth 40000 in
theorem mw_100 : lw_tbl[1124]? = some (.code (mY 100) (mCode 100) (mML 100) (mRet 100)) := rfl
set_option maxRecDepth 40000 in
theorem mw_101 : lw_tbl[1109]? = some (.code (mY 101) (mCode 101) (mML 101) (mRet 101)) := rfl
set_option maxRecDepth 40000 in
theorem mw_102 : lw_tbl[1136]? = some (.code (mY 102) (mCode 102) (mML 102) (mRet 102)) := rfl
set_option maxRecDepth 40000 in
theorem mw_103 : lw_tbl[1164]? = some (.code (mY 103) (mCode 103) (mML 103) (mRet 103)) := rfl
set_option maxRecDepth 40000 in
theorem mw_104 : lw_tbl[1132]? = some (.code (mY 104) (mCode 104) (mML 104) (mRet 104)) := rfl
set_option maxRecDepth 40000 in
theorem mw_105 : lw_tbl[1180]? = some (.code (mY 105) (mCode 105) (mML 105) (mRet 105)) := rfl
set_option maxRecDepth 40000 in
theorem mw_106 : lw_tbl[1168]? = some (.code (mY 106) (mCode 106) (mML 106) (mRet 106)) := rfl
set_option maxRecDepth 40000 in
theorem mw_107 : lw_tbl[1148]? = some (.code (mY 107) (mCode 107) (mML 107) (mRet 107)) := rfl
set_option maxRecDepth 40000 in
theorem mw_108 : lw_tbl[1144]? = some (.code (mY 108) (mCode 108) (mML 108) (mRet 108)) := rfl
set_option maxRecDepth 40000 in
theorem mw_109 : lw_tbl[1093]? = some (.code (mY 109) (mCode 109) (mML 109) (mRet 109)) := rfl
set_option maxRecDepth 40000 in
theorem mw_110 : lw_tbl[1252]? = some (.code (mY 110) (mCode 110) (mML 110) (mRet 110)) := rfl
set_option maxRecDepth 40000 in
theorem mw_111 : lw_tbl[1081]? = some (.code (mY 111) (mCode 111) (mML 111) (mRet 111)) := rfl
set_option maxRecDepth 40000 in
theorem mw_112 : lw_tbl[1085]? = some (.code (mY 112) (mCode 112) (mML 112) (mRet 112)) := rfl
set_option maxRecDepth 40000 in
theorem mw_113 : lw_tbl[1089]? = some (.code (mY 113) (mCode 113) (mML 113) (mRet 113)) := rfl
set_option maxRecDepth 40000 in
theorem mw_114 : lw_tbl[1097]? = some (.code (mY 114) (mCode 114) (mML 114) (mRet 114)) := rfl
set_option maxRecDepth 40000 in
theorem mw_115 : lw_tbl[1101]? = some (.code (mY 115) (mCode 115) (mML 115) (mRet 115)) := rfl
set_option maxRecDepth 40000 in
theorem mw_116 : lw_tbl[1244]? = some (.code (mY 116) (mCode 116) (mML 116) (mRet 116)) := rfl
set_option maxRecDepth 40000 in
theorem mw_117 : lw_tbl[1172]? = some (.code (mY 117) (mCode 117) (mML 117) (mRet 117)) := rfl
set_option maxRecDepth 40000 in
theorem mw_118 : lw_tbl[1140]? = some (.code (mY 118) (mCode 118) (mML 118) (mRet 118)) := rfl
set_option maxRecDepth 40000 in
theorem mw_119 : lw_tbl[1105]? = some (.code (mY 119) (mCode 119) (mML 119) (mRet 119)) := rfl
set_option maxRecDepth 40000 in
theorem mw_120 : lw_tbl[1128]? = some (.code (mY 120) (mCode 120) (mML 120) (mRet 120)) := rfl
set_option maxRecDepth 40000 in
theorem mw_121 : lw_tbl[1152]? = some (.code (mY 121) (mCode 121) (mML 121) (mRet 121)) := rfl
set_option maxRecDepth 40000 in
theorem mw_122 : lw_tbl[1160]? = some (.code (mY 122) (mCode 122) (mML 122) (mRet 122)) := rfl
set_option maxRecDepth 40000 in
theorem mw_123 : lw_tbl[1156]? = some (.code (mY 123) (mCode 123) (mML 123) (mRet 123)) := rfl
set_option maxRecDepth 40000 in
theorem mw_124 : lw_tbl[1176]? = some (.code (mY 124) (mCode 124) (mML 124) (mRet 124)) := rfl
set_option maxRecDepth 40000 in
theorem mw_125 : lw_tbl[1224]? = some (.code (mY 125) (mCode 125) (mML 125) (mRet 125)) := rfl
set_option maxRecDepth 40000 in
theorem mw_126 : lw_tbl[1228]? = some (.code (mY 126) (mCode 126) (mML 126) (mRet 126)) := rfl
set_option maxRecDepth 40000 in
theorem mw_127 : lw_tbl[1232]? = some (.code (mY 127) (mCode 127) (mML 127) (mRet 127)) := rfl
set_option maxRecDepth 40000 in
theorem mw_128 : lw_tbl[1204]? = some (.code (mY 128) (mCode 128) (mML 128) (mRet 128)) := rfl
set_option maxRecDepth 40000 in
theorem mw_129 : lw_tbl[1236]? = some (.code (mY 129) (mCode 129) (mML 129) (mRet 129)) := rfl
set_option maxRecDepth 40000 in
theorem mw_130 : lw_tbl[1240]? = some (.code (mY 130) (mCode 130) (mML 130) (mRet 130)) := rfl
set_option maxRecDepth 40000 in
theorem mw_131 : lw_tbl[1220]? = some (.code (mY 131) (mCode 131) (mML 131) (mRet 131)) := rfl
set_option maxRecDepth 40000 in
theorem mw_132 : lw_tbl[1192]? = some (.code (mY 132) (mCode 132) (mML 132) (mRet 132)) := rfl
set_option maxRecDepth 40000 in
theorem mw_133 : lw_tbl[1212]? = some (.code (mY 133) (mCode 133) (mML 133) (mRet 133)) := rfl
set_option maxRecDepth 40000 in
theorem mw_134 : lw_tbl[1216]? = some (.code (mY 134) (mCode 134) (mML 134) (mRet 134)) := rfl
set_option maxRecDepth 40000 in
theorem mw_135 : lw_tbl[1208]? = some (.code (mY 135) (mCode 135) (mML 135) (mRet 135)) := rfl
set_option maxRecDepth 40000 in
theorem mw_136 : lw_tbl[1200]? = some (.code (mY 136) (mCode 136) (mML 136) (mRet 136)) := rfl
set_option maxRecDepth 40000 in
theorem mw_137 : lw_tbl[1248]? = some (.code (mY 137) (mCode 137) (mML 137) (mRet 137)) := rfl
set_option maxRecDepth 40000 in
theorem mw_138 : lw_tbl[1196]? = some (.code (mY 138) (mCode 138) (mML 138) (mRet 138)) := rfl
set_option maxRecDepth 40000 in
theorem mw_139 : lw_tbl[1188]? = some (.code (mY 139) (mCode 139) (mML 139) (mRet 139)) := rfl
set_option maxRecDepth 40000 in
theorem mw_140 : lw_tbl[1184]? = some (.code (mY 140) (mCode 140) (mML 140) (mRet 140)) := rfl
set_option maxRecDepth 40000 in
theorem mw_141 : lw_tbl[1260]? = some (.code (mY 141) (mCode 141) (mML 141) (mRet 141)) := rfl
set_option maxRecDepth 40000 in
theorem mw_142 : lw_tbl[1256]? = some (.code (mY 142) (mCode 142) (mML 142) (mRet 142)) := rfl
set_option maxRecDepth 40000 in
theorem mw_143 : lw_tbl[1264]? = some (.code (mY 143) (mCode 143) (mML 143) (mRet 143)) := rfl
set_option maxRecDepth 40000 in
theorem mw_144 : lw_tbl[1268]? = some (.code (mY 144) (mCode 144) (mML 144) (mRet 144)) := rfl
set_option maxRecDepth 40000 in
theorem mw_145 : lw_tbl[1272]? = some (.code (mY 145) (mCode 145) (mML 145) (mRet 145)) := rfl
set_option maxRecDepth 40000 in
theorem mw_146 : lw_tbl[1276]? = some (.code (mY 146) (mCode 146) (mML 146) (mRet 146)) := rfl
set_option maxRecDepth 40000 in
theorem mw_147 : lw_tbl[1280]? = some (.code (mY 147) (mCode 147) (mML 147) (mRet 147)) := rfl
set_option maxRecDepth 40000 in
theorem mw_148 : lw_tbl[1284]? = some (.code (mY 148) (mCode 148) (mML 148) (mRet 148)) := rfl
set_option maxRecDepth 40000 in
theorem mw_150 : lw_tbl[464]? = some (.code (mY 150) (mCode 150) (mML 150) (mRet 150)) := rfl
set_option maxRecDepth 40000 in
theorem mw_151 : lw_tbl[468]? = some (.code (mY 151) (mCode 151) (mML 151) (mRet 151)) := rfl
set_option maxRecDepth 40000 in
theorem mw_152 : lw_tbl[473]? = some (.code (mY 152) (mCode 152) (mML 152) (mRet 152)) := rfl
set_option maxRecDepth 40000 in
theorem mw_153 : lw_tbl[476]? = some (.code (mY 153) (mCode 153) (mML 153) (mRet 153)) := rfl
set_option maxRecDepth 40000 in
theorem mw_154 : lw_tbl[481]? = some (.code (mY 154) (mCode 154) (mML 154) (mRet 154)) := rfl
set_option maxRecDepth 40000 in
theorem mw_155 : lw_tbl[513]? = some (.code (mY 155) (mCode 155) (mML 155) (mRet 155)) := rfl
set_option maxRecDepth 40000 in
theorem mw_156 : lw_tbl[517]? = some (.code (mY 156) (mCode 156) (mML 156) (mRet 156)) := rfl
set_option maxRecDepth 40000 in
theorem mw_157 : lw_tbl[521]? = some (.code (mY 157) (mCode 157) (mML 157) (mRet 157)) := rfl
set_option maxRecDepth 40000 in
theorem mw_158 : lw_tbl[525]? = some (.code (mY 158) (mCode 158) (mML 158) (mRet 158)) := rfl
set_option maxRecDepth 40000 in
theorem mw_159 : lw_tbl[528]? = some (.code (mY 159) (mCode 159) (mML 159) (mRet 159)) := rfl
set_option maxRecDepth 40000 in
theorem mw_160 : lw_tbl[531]? = some (.code (mY 160) (mCode 160) (mML 160) (mRet 160)) := rfl
set_option maxRecDepth 40000 in
theorem mw_161 : lw_tbl[538]? = some (.code (mY 161) (mCode 161) (mML 161) (mRet 161)) := rfl
set_option maxRecDepth 20000 in
theorem mwA_0 : ∀ k ∈ ([0, 1, 2, 3, 4, 5, 6, 7, 8, 9, 10, 11, 12, 13, 14, 15, 16, 17, 18, 19, 20, 21, 22, 23, 24, 25, 26, 27, 28, 29, 30, 31, 32, 33, 34, 35, 36, 37, 38, 39] : List Nat), Cond.code (mY k) (mCode k) (mML k) (mRet k) ∈ lw_g := List.forall_mem_cons.mpr ⟨g_in mw_0 rfl, List.forall_mem_cons.mpr ⟨g_in mw_1 rfl, List.forall_mem_cons.mpr ⟨g_in mw_2 rfl, List.forall_mem_cons.mpr ⟨g_in mw_3 rfl, List.forall_mem_cons.mpr ⟨g_in mw_4 rfl, List.forall_mem_cons.mpr ⟨g_in mw_5 rfl, List.forall_mem_cons.mpr ⟨g_in mw_6 rfl, List.forall_mem_cons.mpr ⟨g_in mw_7 rfl, List.forall_mem_cons.mpr ⟨g_in mw_8 rfl, List.forall_mem_cons.mpr ⟨g_in mw_9 rfl, List.forall_mem_cons.mpr ⟨g_in mw_10 rfl, List.forall_mem_cons.mpr ⟨g_in mw_11 rfl, List.forall_mem_cons.mpr ⟨g_in mw_12 rfl, List.forall_mem_cons.mpr ⟨g_in mw_13 rfl, List.forall_mem_cons.mpr ⟨g_in mw_14 rfl, List.forall_mem_cons.mpr ⟨g_in mw_15 rfl, List.forall_mem_cons.mpr ⟨g_in mw_16 rfl, List.forall_mem_cons.mpr ⟨g_in mw_17 rfl, List.forall_mem_cons.mpr ⟨g_in mw_18 rfl, List.forall_mem_cons.mpr ⟨g_in mw_19 rfl, List.forall_mem_cons.mpr ⟨g_in mw_20 rfl, List.forall_mem_cons.mpr ⟨g_in mw_21 rfl, List.forall_mem_cons.mpr ⟨g_in mw_22 rfl, List.forall_mem_cons.mpr ⟨g_in mw_23 rfl, List.forall_mem_cons.mpr ⟨g_in mw_24 rfl, List.forall_mem_cons.mpr ⟨g_in mw_25 rfl, List.forall_mem_cons.mpr ⟨g_in mw_26 rfl, List.forall_mem_cons.mpr ⟨g_in mw_27 rfl, List.forall_mem_cons.mpr ⟨g_in mw_28 rfl, List.forall_mem_cons.mpr ⟨g_in mw_29 rfl, List.forall_mem_cons.mpr ⟨g_in mw_30 rfl, List.forall_mem_cons.mpr ⟨g_in mw_31 rfl, List.forall_mem_cons.mpr ⟨g_in mw_32 rfl, List.forall_mem_cons.mpr ⟨g_in mw_33 rfl, List.forall_mem_cons.mpr ⟨g_in mw_34 rfl, List.forall_mem_cons.mpr ⟨g_in mw_35 rfl, List.forall_mem_cons.mpr ⟨g_in mw_36 rfl, List.forall_mem_cons.mpr ⟨g_in mw_37 rfl, List.forall_mem_cons.mpr ⟨g_in mw_38 rfl, List.forall_mem_cons.mpr ⟨g_in mw_39 rfl, fun _ h => absurd h List.not_mem_nil⟩⟩⟩⟩⟩⟩⟩⟩⟩⟩⟩⟩⟩⟩⟩⟩⟩⟩⟩⟩⟩⟩⟩⟩⟩⟩⟩⟩⟩⟩⟩⟩⟩⟩⟩⟩⟩⟩⟩⟩
set_option maxRecDepth 20000 in
theorem mwA_1 : ∀ k ∈ ([40, 41, 42, 43, 44, 45, 46, 47, 48, 49, 50, 51, 52, 53, 54, 55, 56, 57, 58, 59, 60, 61, 62, 63, 64, 65, 66, 67, 68, 69, 70, 71, 72, 73, 74, 75, 76, 77, 78, 79] : List Nat), Cond.code (mY k) (mCode k) (mML k) (mRet k) ∈ lw_g := List.forall_mem_cons.mpr ⟨g_in mw_40 rfl, List.forall_mem_cons.mpr ⟨g_in mw_41 rfl, List.forall_mem_cons.mpr ⟨g_in mw_42 rfl, List.forall_mem_cons.mpr ⟨g_in mw_43 rfl, List.forall_mem_cons.mpr ⟨g_in mw_44 rfl, List.forall_mem_cons.mpr ⟨g_in mw_45 rfl, List.forall_mem_cons.mpr ⟨g_in mw_46 rfl, List.forall_mem_cons.mpr ⟨g_in mw_47 rfl, List.forall_mem_cons.mpr ⟨g_in mw_48 rfl, List.forall_mem_cons.mpr ⟨g_in mw_49 rfl, List.forall_mem_cons.mpr ⟨g_in mw_50 rfl, List.forall_mem_cons.mpr ⟨g_in mw_51 rfl, List.forall_mem_cons.mpr ⟨g_in mw_52 rfl, List.forall_mem_cons.mpr ⟨g_in mw_53 rfl, List.forall_mem_cons.mpr ⟨g_in mw_54 rfl, List.forall_mem_cons.mpr ⟨g_in mw_55 rfl, List.forall_mem_cons.mpr ⟨g_in mw_56 rfl, List.forall_mem_cons.mpr ⟨g_in mw_57 rfl, List.forall_mem_cons.mpr ⟨g_in mw_58 rfl, List.forall_mem_cons.mpr ⟨g_in mw_59 rfl, List.forall_mem_cons.mpr ⟨g_in mw_60 rfl, List.forall_mem_cons.mpr ⟨g_in mw_61 rfl, List.forall_mem_cons.mpr ⟨g_in mw_62 rfl, List.forall_mem_cons.mpr ⟨g_in mw_63 rfl, List.forall_mem_cons.mpr ⟨g_in mw_64 rfl, List.forall_mem_cons.mpr ⟨g_in mw_65 rfl, List.forall_mem_cons.mpr ⟨g_in mw_66 rfl, List.forall_mem_cons.mpr ⟨g_in mw_67 rfl, List.forall_mem_cons.mpr ⟨g_in mw_68 rfl, List.forall_mem_cons.mpr ⟨g_in mw_69 rfl, List.forall_mem_cons.mpr ⟨g_in mw_70 rfl, List.forall_mem_cons.mpr ⟨g_in mw_71 rfl, List.forall_mem_cons.mpr ⟨g_in mw_72 rfl, List.forall_mem_cons.mpr ⟨g_in mw_73 rfl, List.forall_mem_cons.mpr ⟨g_in mw_74 rfl, List.forall_mem_cons.mpr ⟨g_in mw_75 rfl, List.forall_mem_cons.mpr ⟨g_in mw_76 rfl, List.forall_mem_cons.mpr ⟨g_in mw_77 rfl, List.forall_mem_cons.mpr ⟨g_in mw_78 rfl, List.forall_mem_cons.mpr ⟨g_in mw_79 rfl, fun _ h => absurd h List.not_mem_nil⟩⟩⟩⟩⟩⟩⟩⟩⟩⟩⟩⟩⟩⟩⟩⟩⟩⟩⟩⟩⟩⟩⟩⟩⟩⟩⟩⟩⟩⟩⟩⟩⟩⟩⟩⟩⟩⟩⟩⟩
set_option maxRecDepth 20000 in
theorem mwA_2 : ∀ k ∈ ([80, 81, 82, 83, 84, 85, 86, 87, 88, 89, 90, 91, 92, 93, 94, 95, 96, 97, 98, 99, 100, 101, 102, 103, 104, 105, 106, 107, 108, 109, 110, 111, 112, 113, 114, 115, 116, 117, 118, 119] : List Nat), Cond.code (mY k) (mCode k) (mML k) (mRet k) ∈ lw_g := List.forall_mem_cons.mpr ⟨g_in mw_80 rfl, List.forall_mem_cons.mpr ⟨g_in mw_81 rfl, List.forall_mem_cons.mpr ⟨g_in mw_82 rfl, List.forall_mem_cons.mpr ⟨g_in mw_83 rfl, List.forall_mem_cons.mpr ⟨g_in mw_84 rfl, List.forall_mem_cons.mpr ⟨g_in mw_85 rfl, List.forall_mem_cons.mpr ⟨g_in mw_86 rfl, List.forall_mem_cons.mpr ⟨g_in mw_87 rfl, List.forall_mem_cons.mpr ⟨g_in mw_88 rfl, List.forall_mem_cons.mpr ⟨g_in mw_89 rfl, List.forall_mem_cons.mpr ⟨g_in mw_90 rfl, List.forall_mem_cons.mpr ⟨g_in mw_91 rfl, List.forall_mem_cons.mpr ⟨g_in mw_92 rfl, List.forall_mem_cons.mpr ⟨g_in mw_93 rfl, List.forall_mem_cons.mpr ⟨g_in mw_94 rfl, List.forall_mem_cons.mpr ⟨g_in mw_95 rfl, List.forall_mem_cons.mpr ⟨g_in mw_96 rfl, List.forall_mem_cons.mpr ⟨g_in mw_97 rfl, List.forall_mem_cons.mpr ⟨g_in mw_98 rfl, List.forall_mem_cons.mpr ⟨g_in mw_99 rfl, List.forall_mem_cons.mpr ⟨g_in mw_100 rfl, List.forall_mem_cons.mpr ⟨g_in mw_101 rfl, List.forall_mem_cons.mpr ⟨g_in mw_102 rfl, List.forall_mem_cons.mpr ⟨g_in mw_103 rfl, List.forall_mem_cons.mpr ⟨g_in mw_104 rfl, List.forall_mem_cons.mpr ⟨g_in mw_105 rfl, List.forall_mem_cons.mpr ⟨g_in mw_106 rfl, List.forall_mem_cons.mpr ⟨g_in mw_107 rfl, List.forall_mem_cons.mpr ⟨g_in mw_108 rfl, List.forall_mem_cons.mpr ⟨g_in mw_109 rfl, List.forall_mem_cons.mpr ⟨g_in mw_110 rfl, List.forall_mem_cons.mpr ⟨g_in mw_111 rfl, List.forall_mem_cons.mpr ⟨g_in mw_112 rfl, List.forall_mem_cons.mpr ⟨g_in mw_113 rfl, List.forall_mem_cons.mpr ⟨g_in mw_114 rfl, List.forall_mem_cons.mpr ⟨g_in mw_115 rfl, List.forall_mem_cons.mpr ⟨g_in mw_116 rfl, List.forall_mem_cons.mpr ⟨g_in mw_117 rfl, List.forall_mem_cons.mpr ⟨g_in mw_118 rfl, List.forall_mem_cons.mpr ⟨g_in mw_119 rfl, fun _ h => absurd h List.not_mem_nil⟩⟩⟩⟩⟩⟩⟩⟩⟩⟩⟩⟩⟩⟩⟩⟩⟩⟩⟩⟩⟩⟩⟩⟩⟩⟩⟩⟩⟩⟩⟩⟩⟩⟩⟩⟩⟩⟩⟩⟩
set_option maxRecDepth 20000 in
theorem mwA_3 : ∀ k ∈ ([120, 121, 122, 123, 124, 125, 126, 127, 128, 129, 130, 131, 132, 133, 134, 135, 136, 137, 138, 139, 140, 141, 142, 143, 144, 145, 146, 147, 148, 150, 151, 152, 153, 154, 155, 156, 157, 158, 159, 160] : List Nat), Cond.code (mY k) (mCode k) (mML k) (mRet k) ∈ lw_g := List.forall_mem_cons.mpr ⟨g_in mw_120 rfl, List.forall_mem_cons.mpr ⟨g_in mw_121 rfl, List.forall_mem_cons.mpr ⟨g_in mw_122 rfl, List.forall_mem_cons.mpr ⟨g_in mw_123 rfl, List.forall_mem_cons.mpr ⟨g_in mw_124 rfl, List.forall_mem_cons.mpr ⟨g_in mw_125 rfl, List.forall_mem_cons.mpr ⟨g_in mw_126 rfl, List.forall_mem_cons.mpr ⟨g_in mw_127 rfl, List.forall_mem_cons.mpr ⟨g_in mw_128 rfl, List.forall_mem_cons.mpr ⟨g_in mw_129 rfl, List.forall_mem_cons.mpr ⟨g_in mw_130 rfl, List.forall_mem_cons.mpr ⟨g_in mw_131 rfl, List.forall_mem_cons.mpr ⟨g_in mw_132 rfl, List.forall_mem_cons.mpr ⟨g_in mw_133 rfl, List.forall_mem_cons.mpr ⟨g_in mw_134 rfl, List.forall_mem_cons.mpr ⟨g_in mw_135 rfl, List.forall_mem_cons.mpr ⟨g_in mw_136 rfl, List.forall_mem_cons.mpr ⟨g_in mw_137 rfl, List.forall_mem_cons.mpr ⟨g_in mw_138 rfl, List.forall_mem_cons.mpr ⟨g_in mw_139 rfl, List.forall_mem_cons.mpr ⟨g_in mw_140 rfl, List.forall_mem_cons.mpr ⟨g_in mw_141 rfl, List.forall_mem_cons.mpr ⟨g_in mw_142 rfl, List.forall_mem_cons.mpr ⟨g_in mw_143 rfl, List.forall_mem_cons.mpr ⟨g_in mw_144 rfl, List.forall_mem_cons.mpr ⟨g_in mw_145 rfl, List.forall_mem_cons.mpr ⟨g_in mw_146 rfl, List.forall_mem_cons.mpr ⟨g_in mw_147 rfl, List.forall_mem_cons.mpr ⟨g_in mw_148 rfl, List.forall_mem_cons.mpr ⟨g_in mw_150 rfl, List.forall_mem_cons.mpr ⟨g_in mw_151 rfl, List.forall_mem_cons.mpr ⟨g_in mw_152 rfl, List.forall_mem_cons.mpr ⟨g_in mw_153 rfl, List.forall_mem_cons.mpr ⟨g_in mw_154 rfl, List.forall_mem_cons.mpr ⟨g_in mw_155 rfl, List.forall_mem_cons.mpr ⟨g_in mw_156 rfl, List.forall_mem_cons.mpr ⟨g_in mw_157 rfl, List.forall_mem_cons.mpr ⟨g_in mw_158 rfl, List.forall_mem_cons.mpr ⟨g_in mw_159 rfl, List.forall_mem_cons.mpr ⟨g_in mw_160 rfl, fun _ h => absurd h List.not_mem_nil⟩⟩⟩⟩⟩⟩⟩⟩⟩⟩⟩⟩⟩⟩⟩⟩⟩⟩⟩⟩⟩⟩⟩⟩⟩⟩⟩⟩⟩⟩⟩⟩⟩⟩⟩⟩⟩⟩⟩⟩
set_option maxRecDepth 20000 in
theorem mwA_4 : ∀ k ∈ ([161] : List Nat), Cond.code (mY k) (mCode k) (mML k) (mRet k) ∈ lw_g := List.forall_mem_cons.mpr ⟨g_in mw_161 rfl, fun _ h => absurd h List.not_mem_nil⟩
theorem mcode_in {k : Nat} (h : k ∈ mAll) : Cond.code (mY k) (mCode k) (mML k) (mRet k) ∈ lw_g := by
  simp only [mAll, List.mem_append] at h
  rcases h with (((h | h) | h) | h) | h
  · exact mwA_0 k h
  · exact mwA_1 k h
  · exact mwA_2 k h
  · exact mwA_3 k h
  · exact mwA_4 k h
def calT : List (Nat × Nat × Nat × Nat × Nat) := [(1, 40, 0, 15, 675), (2, 11, 2, 44, 182), (2, 28, 0, 22, 442), (2, 32, 0, 45, 574), (2, 39, 0, 25, 578), (2, 43, 0, 29, 582), (2, 59, 0, 55, 446), (2, 68, 1, 23, 453), (2, 72, 0, 24, 501), (2, 76, 0, 56, 505), (2, 81, 0, 155, 510), (2, 87, 0, 57, 456), (2, 91, 0, 26, 590), (2, 94, 3, 92, 598), (2, 97, 0, 27, 586), (2, 100, 0, 28, 594), (2, 103, 0, 30, 599), (2, 106, 0, 47, 615), (2, 110, 0, 31, 603), (2, 113, 0, 46, 611), (2, 116, 0, 32, 607), (3, 41, 0, 36, 707), (5, 21, 0, 150, 461), (6, 21, 2, 0, 211), (6, 28, 2, 12, 280), (6, 41, 0, 11, 775), (6, 45, 0, 19, 780), (6, 48, 0, 62, 635), (6, 66, 0, 63, 639), (6, 79, 0, 6, 647), (6, 83, 0, 66, 663), (6, 86, 0, 68, 686), (6, 92, 0, 5, 643), (6, 96, 0, 64, 651), (6, 99, 0, 8, 659), (6, 117, 0, 65, 655), (6, 132, 0, 67, 667), (6, 139, 0, 14, 671), (6, 146, 0, 16, 682), (6, 152, 0, 4, 690), (6, 158, 0, 35, 694), (6, 162, 0, 41, 695), (6, 166, 0, 69, 699), (6, 169, 0, 70, 716), (6, 175, 0, 7, 759), (6, 178, 0, 42, 703), (6, 181, 0, 43, 711), (6, 184, 0, 36, 715), (6, 196, 0, 71, 720), (6, 199, 0, 49, 724), (6, 202, 0, 48, 728), (6, 205, 0, 50, 732), (6, 208, 0, 51, 736), (6, 211, 0, 73, 740), (6, 215, 1, 72, 756), (6, 218, 0, 74, 744), (6, 221, 0, 3, 748), (6, 224, 0, 39, 752), (7, 9, 2, 33, 91), (7, 18, 2, 53, 131), (7, 25, 2, 44, 148), (7, 32, 2, 20, 177), (7, 39, 2, 58, 205), (7, 72, 1, 92, 375), (7, 79, 0, 37, 378), (7, 83, 0, 91, 386), (7, 87, 0, 1, 390), (7, 91, 0, 34, 398), (7, 94, 0, 13, 402), (7, 97, 0, 38, 410), (7, 101, 0, 35, 418), (7, 107, 0, 40, 422), (7, 110, 0, 54, 430), (7, 117, 0, 21, 438), (7, 124, 0, 52, 619), (7, 131, 0, 60, 631), (7, 135, 0, 2, 767), (7, 138, 0, 59, 771), (7, 145, 0, 61, 785), (7, 200, 0, 41, 802), (7, 204, 0, 9, 807), (7, 208, 0, 17, 811), (7, 211, 0, 18, 815), (7, 215, 0, 10, 819), (8, 7, 0, 95, 914), (8, 147, 1, 97, 1110), (8, 156, 1, 99, 1114), (8, 160, 1, 98, 1117), (8, 167, 1, 100, 1122), (8, 176, 0, 103, 1161), (8, 179, 0, 102, 1133), (8, 183, 0, 104, 1129), (8, 186, 0, 107, 1145), (8, 198, 0, 109, 1090), (8, 210, 0, 101, 1106), (8, 216, 0, 120, 1125), (8, 219, 0, 118, 1137), (8, 223, 0, 108, 1141), (8, 229, 0, 121, 1149), (8, 232, 0, 123, 1153), (8, 236, 0, 124, 1173), (8, 239, 0, 117, 1169), (8, 243, 0, 105, 1177), (8, 246, 0, 122, 1157), (8, 250, 0, 106, 1165), (8, 253, 0, 126, 1225), (8, 256, 0, 127, 1229), (8, 259, 0, 128, 1201), (8, 263, 0, 129, 1233), (8, 266, 0, 130, 1237), (8, 269, 0, 125, 1221), (8, 272, 0, 133, 1209), (8, 276, 0, 134, 1213), (8, 279, 0, 135, 1205), (8, 282, 0, 110, 1249), (8, 285, 0, 136, 1197), (8, 289, 0, 131, 1217), (8, 292, 0, 116, 1241), (8, 295, 0, 137, 1245), (8, 298, 0, 132, 1189), (8, 301, 0, 138, 1193), (8, 304, 0, 139, 1185), (8, 307, 0, 141, 1257), (9, 18, 2, 75, 83), (9, 21, 2, 96, 920), (9, 22, 0, 76, 371), (9, 26, 0, 111, 1078), (9, 27, 0, 77, 382), (9, 31, 0, 112, 1082), (9, 32, 0, 78, 394), (9, 36, 0, 113, 1086), (9, 37, 0, 79, 406), (9, 41, 0, 114, 1094), (9, 42, 0, 80, 414), (9, 45, 0, 115, 1098), (9, 48, 0, 81, 426), (9, 52, 0, 94, 910), (9, 53, 0, 82, 434), (9, 57, 0, 119, 1102), (9, 58, 0, 83, 627), (9, 62, 0, 140, 1181), (9, 63, 0, 84, 763), (9, 67, 0, 142, 1253), (9, 68, 0, 85, 790), (9, 71, 0, 143, 1261), (9, 72, 0, 86, 794), (9, 76, 0, 144, 1265), (9, 82, 0, 145, 1269), (9, 83, 0, 93, 906), (9, 88, 0, 146, 1273), (9, 89, 0, 89, 798), (9, 92, 0, 147, 1277), (9, 93, 0, 90, 803), (9, 96, 0, 148, 1281), (10, 492, 0, 151, 465), (10, 495, 1, 152, 471), (11, 9, 1, 153, 474), (10, 1059, 1, 154, 479), (10, 633, 0, 156, 514), (10, 505, 0, 157, 518), (10, 637, 1, 159, 526), (10, 335, 0, 158, 522), (11, 88, 1, 160, 529), (11, 95, 1, 161, 536)]
def cal (own idx : Nat) : Option (Nat × Nat) := (calT.find? (fun e => e.1 == own && e.2.1 == idx)).map (fun e => (e.2.2.1, e.2.2.2.1))
def calChk (e : Nat × Nat × Nat × Nat × Nat) : Bool := decide (e.2.2.2.1 ∈ mAll) && (decide (e.2.2.1 = 3 ∧ clsN e.1 = "PostBus$Reader" ∧ e.2.1 = 94 ∧ mY e.2.2.2.1 = ⟨"PostBus", "within", "(III)Z"⟩ ∧ mKd e.2.2.2.1 = 1) || (isW e.2.2.2.2 (.methodLink (clsN e.1) e.2.1 (mY e.2.2.2.1)) && decide (e.2.2.1 = mKd e.2.2.2.1)))
theorem calT_0 : ([(1, 40, 0, 15, 675), (2, 11, 2, 44, 182), (2, 28, 0, 22, 442), (2, 32, 0, 45, 574), (2, 39, 0, 25, 578), (2, 43, 0, 29, 582), (2, 59, 0, 55, 446), (2, 68, 1, 23, 453), (2, 72, 0, 24, 501), (2, 76, 0, 56, 505), (2, 81, 0, 155, 510), (2, 87, 0, 57, 456), (2, 91, 0, 26, 590), (2, 94, 3, 92, 598), (2, 97, 0, 27, 586), (2, 100, 0, 28, 594), (2, 103, 0, 30, 599), (2, 106, 0, 47, 615), (2, 110, 0, 31, 603), (2, 113, 0, 46, 611), (2, 116, 0, 32, 607), (3, 41, 0, 36, 707), (5, 21, 0, 150, 461), (6, 21, 2, 0, 211), (6, 28, 2, 12, 280), (6, 41, 0, 11, 775), (6, 45, 0, 19, 780), (6, 48, 0, 62, 635), (6, 66, 0, 63, 639), (6, 79, 0, 6, 647), (6, 83, 0, 66, 663), (6, 86, 0, 68, 686), (6, 92, 0, 5, 643), (6, 96, 0, 64, 651), (6, 99, 0, 8, 659), (6, 117, 0, 65, 655), (6, 132, 0, 67, 667), (6, 139, 0, 14, 671), (6, 146, 0, 16, 682), (6, 152, 0, 4, 690), (6, 158, 0, 35, 694), (6, 162, 0, 41, 695), (6, 166, 0, 69, 699), (6, 169, 0, 70, 716), (6, 175, 0, 7, 759), (6, 178, 0, 42, 703), (6, 181, 0, 43, 711), (6, 184, 0, 36, 715), (6, 196, 0, 71, 720), (6, 199, 0, 49, 724), (6, 202, 0, 48, 728), (6, 205, 0, 50, 732), (6, 208, 0, 51, 736), (6, 211, 0, 73, 740), (6, 215, 1, 72, 756), (6, 218, 0, 74, 744), (6, 221, 0, 3, 748), (6, 224, 0, 39, 752), (7, 9, 2, 33, 91), (7, 18, 2, 53, 131)] : List (Nat × Nat × Nat × Nat × Nat)).all calChk = true := by decide +kernel
theorem calT_1 : ([(7, 25, 2, 44, 148), (7, 32, 2, 20, 177), (7, 39, 2, 58, 205), (7, 72, 1, 92, 375), (7, 79, 0, 37, 378), (7, 83, 0, 91, 386), (7, 87, 0, 1, 390), (7, 91, 0, 34, 398), (7, 94, 0, 13, 402), (7, 97, 0, 38, 410), (7, 101, 0, 35, 418), (7, 107, 0, 40, 422), (7, 110, 0, 54, 430), (7, 117, 0, 21, 438), (7, 124, 0, 52, 619), (7, 131, 0, 60, 631), (7, 135, 0, 2, 767), (7, 138, 0, 59, 771), (7, 145, 0, 61, 785), (7, 200, 0, 41, 802), (7, 204, 0, 9, 807), (7, 208, 0, 17, 811), (7, 211, 0, 18, 815), (7, 215, 0, 10, 819), (8, 7, 0, 95, 914), (8, 147, 1, 97, 1110), (8, 156, 1, 99, 1114), (8, 160, 1, 98, 1117), (8, 167, 1, 100, 1122), (8, 176, 0, 103, 1161), (8, 179, 0, 102, 1133), (8, 183, 0, 104, 1129), (8, 186, 0, 107, 1145), (8, 198, 0, 109, 1090), (8, 210, 0, 101, 1106), (8, 216, 0, 120, 1125), (8, 219, 0, 118, 1137), (8, 223, 0, 108, 1141), (8, 229, 0, 121, 1149), (8, 232, 0, 123, 1153), (8, 236, 0, 124, 1173), (8, 239, 0, 117, 1169), (8, 243, 0, 105, 1177), (8, 246, 0, 122, 1157), (8, 250, 0, 106, 1165), (8, 253, 0, 126, 1225), (8, 256, 0, 127, 1229), (8, 259, 0, 128, 1201), (8, 263, 0, 129, 1233), (8, 266, 0, 130, 1237), (8, 269, 0, 125, 1221), (8, 272, 0, 133, 1209), (8, 276, 0, 134, 1213), (8, 279, 0, 135, 1205), (8, 282, 0, 110, 1249), (8, 285, 0, 136, 1197), (8, 289, 0, 131, 1217), (8, 292, 0, 116, 1241), (8, 295, 0, 137, 1245), (8, 298, 0, 132, 1189)] : List (Nat × Nat × Nat × Nat × Nat)).all calChk = true := by decide +kernel
theorem calT_2 : ([(8, 301, 0, 138, 1193), (8, 304, 0, 139, 1185), (8, 307, 0, 141, 1257), (9, 18, 2, 75, 83), (9, 21, 2, 96, 920), (9, 22, 0, 76, 371), (9, 26, 0, 111, 1078), (9, 27, 0, 77, 382), (9, 31, 0, 112, 1082), (9, 32, 0, 78, 394), (9, 36, 0, 113, 1086), (9, 37, 0, 79, 406), (9, 41, 0, 114, 1094), (9, 42, 0, 80, 414), (9, 45, 0, 115, 1098), (9, 48, 0, 81, 426), (9, 52, 0, 94, 910), (9, 53, 0, 82, 434), (9, 57, 0, 119, 1102), (9, 58, 0, 83, 627), (9, 62, 0, 140, 1181), (9, 63, 0, 84, 763), (9, 67, 0, 142, 1253), (9, 68, 0, 85, 790), (9, 71, 0, 143, 1261), (9, 72, 0, 86, 794), (9, 76, 0, 144, 1265), (9, 82, 0, 145, 1269), (9, 83, 0, 93, 906), (9, 88, 0, 146, 1273), (9, 89, 0, 89, 798), (9, 92, 0, 147, 1277), (9, 93, 0, 90, 803), (9, 96, 0, 148, 1281), (10, 492, 0, 151, 465), (10, 495, 1, 152, 471), (11, 9, 1, 153, 474), (10, 1059, 1, 154, 479), (10, 633, 0, 156, 514), (10, 505, 0, 157, 518), (10, 637, 1, 159, 526), (10, 335, 0, 158, 522), (11, 88, 1, 160, 529), (11, 95, 1, 161, 536)] : List (Nat × Nat × Nat × Nat × Nat)).all calChk = true := by decide +kernel
theorem calT_ok : calT.all calChk = true := by
  have e : calT = [(1, 40, 0, 15, 675), (2, 11, 2, 44, 182), (2, 28, 0, 22, 442), (2, 32, 0, 45, 574), (2, 39, 0, 25, 578), (2, 43, 0, 29, 582), (2, 59, 0, 55, 446), (2, 68, 1, 23, 453), (2, 72, 0, 24, 501), (2, 76, 0, 56, 505), (2, 81, 0, 155, 510), (2, 87, 0, 57, 456), (2, 91, 0, 26, 590), (2, 94, 3, 92, 598), (2, 97, 0, 27, 586), (2, 100, 0, 28, 594), (2, 103, 0, 30, 599), (2, 106, 0, 47, 615), (2, 110, 0, 31, 603), (2, 113, 0, 46, 611), (2, 116, 0, 32, 607), (3, 41, 0, 36, 707), (5, 21, 0, 150, 461), (6, 21, 2, 0, 211), (6, 28, 2, 12, 280), (6, 41, 0, 11, 775), (6, 45, 0, 19, 780), (6, 48, 0, 62, 635), (6, 66, 0, 63, 639), (6, 79, 0, 6, 647), (6, 83, 0, 66, 663), (6, 86, 0, 68, 686), (6, 92, 0, 5, 643), (6, 96, 0, 64, 651), (6, 99, 0, 8, 659), (6, 117, 0, 65, 655), (6, 132, 0, 67, 667), (6, 139, 0, 14, 671), (6, 146, 0, 16, 682), (6, 152, 0, 4, 690), (6, 158, 0, 35, 694), (6, 162, 0, 41, 695), (6, 166, 0, 69, 699), (6, 169, 0, 70, 716), (6, 175, 0, 7, 759), (6, 178, 0, 42, 703), (6, 181, 0, 43, 711), (6, 184, 0, 36, 715), (6, 196, 0, 71, 720), (6, 199, 0, 49, 724), (6, 202, 0, 48, 728), (6, 205, 0, 50, 732), (6, 208, 0, 51, 736), (6, 211, 0, 73, 740), (6, 215, 1, 72, 756), (6, 218, 0, 74, 744), (6, 221, 0, 3, 748), (6, 224, 0, 39, 752), (7, 9, 2, 33, 91), (7, 18, 2, 53, 131)] ++ [(7, 25, 2, 44, 148), (7, 32, 2, 20, 177), (7, 39, 2, 58, 205), (7, 72, 1, 92, 375), (7, 79, 0, 37, 378), (7, 83, 0, 91, 386), (7, 87, 0, 1, 390), (7, 91, 0, 34, 398), (7, 94, 0, 13, 402), (7, 97, 0, 38, 410), (7, 101, 0, 35, 418), (7, 107, 0, 40, 422), (7, 110, 0, 54, 430), (7, 117, 0, 21, 438), (7, 124, 0, 52, 619), (7, 131, 0, 60, 631), (7, 135, 0, 2, 767), (7, 138, 0, 59, 771), (7, 145, 0, 61, 785), (7, 200, 0, 41, 802), (7, 204, 0, 9, 807), (7, 208, 0, 17, 811), (7, 211, 0, 18, 815), (7, 215, 0, 10, 819), (8, 7, 0, 95, 914), (8, 147, 1, 97, 1110), (8, 156, 1, 99, 1114), (8, 160, 1, 98, 1117), (8, 167, 1, 100, 1122), (8, 176, 0, 103, 1161), (8, 179, 0, 102, 1133), (8, 183, 0, 104, 1129), (8, 186, 0, 107, 1145), (8, 198, 0, 109, 1090), (8, 210, 0, 101, 1106), (8, 216, 0, 120, 1125), (8, 219, 0, 118, 1137), (8, 223, 0, 108, 1141), (8, 229, 0, 121, 1149), (8, 232, 0, 123, 1153), (8, 236, 0, 124, 1173), (8, 239, 0, 117, 1169), (8, 243, 0, 105, 1177), (8, 246, 0, 122, 1157), (8, 250, 0, 106, 1165), (8, 253, 0, 126, 1225), (8, 256, 0, 127, 1229), (8, 259, 0, 128, 1201), (8, 263, 0, 129, 1233), (8, 266, 0, 130, 1237), (8, 269, 0, 125, 1221), (8, 272, 0, 133, 1209), (8, 276, 0, 134, 1213), (8, 279, 0, 135, 1205), (8, 282, 0, 110, 1249), (8, 285, 0, 136, 1197), (8, 289, 0, 131, 1217), (8, 292, 0, 116, 1241), (8, 295, 0, 137, 1245), (8, 298, 0, 132, 1189)] ++ [(8, 301, 0, 138, 1193), (8, 304, 0, 139, 1185), (8, 307, 0, 141, 1257), (9, 18, 2, 75, 83), (9, 21, 2, 96, 920), (9, 22, 0, 76, 371), (9, 26, 0, 111, 1078), (9, 27, 0, 77, 382), (9, 31, 0, 112, 1082), (9, 32, 0, 78, 394), (9, 36, 0, 113, 1086), (9, 37, 0, 79, 406), (9, 41, 0, 114, 1094), (9, 42, 0, 80, 414), (9, 45, 0, 115, 1098), (9, 48, 0, 81, 426), (9, 52, 0, 94, 910), (9, 53, 0, 82, 434), (9, 57, 0, 119, 1102), (9, 58, 0, 83, 627), (9, 62, 0, 140, 1181), (9, 63, 0, 84, 763), (9, 67, 0, 142, 1253), (9, 68, 0, 85, 790), (9, 71, 0, 143, 1261), (9, 72, 0, 86, 794), (9, 76, 0, 144, 1265), (9, 82, 0, 145, 1269), (9, 83, 0, 93, 906), (9, 88, 0, 146, 1273), (9, 89, 0, 89, 798), (9, 92, 0, 147, 1277), (9, 93, 0, 90, 803), (9, 96, 0, 148, 1281), (10, 492, 0, 151, 465), (10, 495, 1, 152, 471), (11, 9, 1, 153, 474), (10, 1059, 1, 154, 479), (10, 633, 0, 156, 514), (10, 505, 0, 157, 518), (10, 637, 1, 159, 526), (10, 335, 0, 158, 522), (11, 88, 1, 160, 529), (11, 95, 1, 161, 536)] := rfl
  rw [e]
  simp only [List.all_append, Bool.and_eq_true]
  exact ⟨⟨calT_0, calT_1⟩, calT_2⟩
theorem cal_ok {own idx kd k : Nat} (h : cal own idx = some (kd, k)) : ∃ p, calChk (own, idx, kd, k, p) = true := by
  simp only [cal, Option.map_eq_some_iff] at h
  obtain ⟨e, he, h2⟩ := h
  have h3 := List.find?_some he
  have h4 := List.mem_of_find?_eq_some he
  simp only [Bool.and_eq_true, beq_iff_eq] at h3
  obtain ⟨a, b, c, d, p⟩ := e
  simp only [Prod.mk.injEq] at h2 h3
  obtain ⟨rfl, rfl⟩ := h2
  obtain ⟨rfl, rfl⟩ := h3
  exact ⟨p, List.all_eq_true.mp calT_ok _ h4⟩
def fldT : List (Nat × Nat × Nat × Nat × Nat) := [(0, 9, 0, 1, 218), (0, 15, 0, 2, 221), (0, 19, 0, 3, 223), (0, 22, 0, 4, 225), (0, 25, 0, 5, 228), (0, 28, 0, 6, 231), (0, 31, 0, 7, 234), (0, 34, 0, 8, 237), (0, 37, 0, 9, 240), (0, 40, 0, 10, 243), (0, 43, 0, 11, 246), (0, 46, 0, 12, 248), (0, 49, 0, 0, 215), (1, 9, 1, 1, 287), (1, 15, 1, 2, 289), (1, 18, 1, 3, 290), (1, 21, 1, 4, 292), (1, 24, 1, 5, 293), (1, 27, 1, 6, 296), (1, 30, 1, 7, 299), (1, 33, 1, 8, 302), (1, 36, 1, 0, 284), (2, 12, 2, 0, 183), (2, 18, 2, 1, 185), (2, 22, 2, 2, 186), (2, 25, 2, 3, 187), (2, 35, 2, 5, 189), (2, 47, 2, 4, 188), (2, 50, 5, 1, 138), (2, 55, 5, 0, 136), (3, 9, 3, 0, 95), (3, 15, 3, 1, 98), (3, 19, 3, 2, 100), (3, 23, 3, 4, 103), (3, 26, 3, 5, 104), (3, 29, 3, 6, 105), (3, 32, 3, 7, 106), (3, 35, 3, 8, 107), (3, 38, 3, 3, 102), (4, 9, 4, 1, 155), (4, 15, 4, 2, 157), (4, 18, 4, 3, 159), (4, 21, 4, 4, 160), (4, 24, 4, 0, 152), (4, 28, 4, 5, 161), (5, 9, 5, 0, 135), (5, 15, 5, 1, 137), (6, 9, 6, 0, 324), (6, 15, 6, 1, 325), (6, 22, 6, 2, 326), (6, 29, 6, 3, 328), (6, 33, 6, 4, 330), (6, 37, 6, 5, 331), (6, 51, 0, 4, 226), (6, 60, 0, 5, 229), (6, 63, 0, 0, 217), (6, 70, 0, 1, 219), (6, 74, 3, 0, 97), (6, 89, 0, 7, 235), (6, 103, 1, 0, 286), (6, 104, 1, 5, 294), (6, 105, 1, 6, 297), (6, 108, 1, 3, 291), (6, 111, 0, 6, 232), (6, 114, 1, 7, 300), (6, 120, 1, 1, 288), (6, 123, 0, 8, 238), (6, 126, 0, 9, 241), (6, 129, 0, 2, 222), (6, 136, 0, 3, 224), (6, 143, 1, 8, 303), (6, 149, 0, 10, 244), (6, 155, 0, 12, 249), (6, 172, 3, 1, 99), (6, 187, 4, 0, 153), (6, 192, 4, 1, 156), (6, 193, 4, 2, 158), (7, 10, 7, 0, 346), (7, 19, 7, 1, 347), (7, 26, 7, 2, 348), (7, 33, 7, 3, 349), (7, 42, 7, 4, 350), (7, 46, 7, 5, 351), (7, 49, 7, 6, 352), (7, 52, 7, 7, 353), (7, 56, 6, 2, 327), (7, 60, 0, 0, 216), (7, 65, 6, 3, 329), (7, 69, 1, 0, 285), (7, 76, 3, 0, 96), (7, 104, 3, 3, 101), (7, 114, 5, 1, 139), (7, 121, 2, 0, 184), (7, 128, 6, 5, 332), (7, 141, 0, 4, 227), (7, 156, 0, 5, 230), (7, 159, 0, 6, 233), (7, 162, 0, 7, 236), (7, 165, 0, 8, 239), (7, 168, 0, 9, 242), (7, 171, 0, 10, 245), (7, 174, 0, 11, 247), (7, 177, 0, 1, 220), (7, 181, 0, 12, 250), (7, 188, 1, 5, 295), (7, 189, 1, 6, 298), (7, 192, 1, 7, 301), (7, 195, 1, 8, 304), (7, 218, 4, 0, 154), (8, 1, 8, 0, 935), (8, 11, 8, 2, 937), (8, 14, 8, 1, 936), (8, 24, 8, 4, 939), (8, 27, 8, 5, 940), (8, 30, 8, 6, 941), (8, 56, 8, 9, 944), (8, 59, 8, 10, 945), (8, 62, 8, 11, 946), (8, 65, 8, 12, 947), (8, 69, 8, 14, 949), (8, 72, 8, 15, 950), (8, 75, 8, 16, 951), (8, 78, 8, 17, 952), (8, 81, 8, 19, 954), (8, 84, 8, 20, 955), (8, 87, 8, 21, 956), (8, 90, 8, 22, 957), (8, 93, 8, 24, 959), (8, 96, 8, 25, 960), (8, 99, 8, 26, 961), (8, 102, 8, 27, 962), (8, 105, 8, 29, 964), (8, 108, 8, 30, 965), (8, 111, 8, 31, 966), (8, 114, 8, 32, 967), (8, 117, 8, 33, 968), (8, 120, 8, 34, 969), (8, 123, 8, 35, 970), (8, 126, 8, 36, 971), (8, 129, 8, 37, 972), (8, 132, 8, 42, 977), (8, 135, 8, 43, 978), (8, 138, 8, 44, 979), (8, 141, 8, 45, 980), (8, 144, 8, 46, 981), (8, 151, 8, 3, 938), (8, 170, 8, 7, 942), (8, 173, 8, 8, 943), (8, 189, 8, 13, 948), (8, 192, 8, 18, 953), (8, 195, 8, 23, 958), (8, 201, 8, 28, 963), (8, 204, 8, 39, 974), (8, 207, 8, 40, 975), (8, 213, 8, 38, 973), (8, 226, 8, 41, 976)]
def fld (own idx : Nat) : Option (Nat × Nat) := (fldT.find? (fun e => e.1 == own && e.2.1 == idx)).map (fun e => (e.2.2.1, e.2.2.2.1))
def vT (ci : Nat) : u_T := match ci with
  | 0 => TX0
  | 1 => TX1
  | 2 => TX2
  | 3 => TX3
  | 4 => TX4
  | 5 => TX5
  | 6 => TX6
  | 7 => TX7
  | 8 => TX8
  | _ => fun _ => ("", "", "", false)
def vTy (ci : Nat) : Nat → FieldType := match ci with
  | 0 => tyX0
  | 1 => tyX1
  | 2 => tyX2
  | 3 => tyX3
  | 4 => tyX4
  | 5 => tyX5
  | 6 => tyX6
  | 7 => tyX7
  | 8 => tyX8
  | _ => fun _ => .int
def vN (ci : Nat) : Nat := match ci with
  | 0 => 13
  | 1 => 9
  | 2 => 6
  | 3 => 9
  | 4 => 6
  | 5 => 2
  | 6 => 6
  | 7 => 8
  | 8 => 47
  | _ => 0
def fldChk (e : Nat × Nat × Nat × Nat × Nat) : Bool := decide (e.2.2.1 < 9) && decide (e.2.2.2.1 < vN e.2.2.1) && isW e.2.2.2.2 (.fieldLink (clsN e.1) e.2.1 (vT e.2.2.1 e.2.2.2.1).1 (vT e.2.2.1 e.2.2.2.1).2.1 (vT e.2.2.1 e.2.2.2.1).2.2.1) && decide ((vT e.2.2.1 e.2.2.2.1).1 = clsN e.2.2.1)
theorem fldT_0 : ([(0, 9, 0, 1, 218), (0, 15, 0, 2, 221), (0, 19, 0, 3, 223), (0, 22, 0, 4, 225), (0, 25, 0, 5, 228), (0, 28, 0, 6, 231), (0, 31, 0, 7, 234), (0, 34, 0, 8, 237), (0, 37, 0, 9, 240), (0, 40, 0, 10, 243), (0, 43, 0, 11, 246), (0, 46, 0, 12, 248), (0, 49, 0, 0, 215), (1, 9, 1, 1, 287), (1, 15, 1, 2, 289), (1, 18, 1, 3, 290), (1, 21, 1, 4, 292), (1, 24, 1, 5, 293), (1, 27, 1, 6, 296), (1, 30, 1, 7, 299), (1, 33, 1, 8, 302), (1, 36, 1, 0, 284), (2, 12, 2, 0, 183), (2, 18, 2, 1, 185), (2, 22, 2, 2, 186), (2, 25, 2, 3, 187), (2, 35, 2, 5, 189), (2, 47, 2, 4, 188), (2, 50, 5, 1, 138), (2, 55, 5, 0, 136), (3, 9, 3, 0, 95), (3, 15, 3, 1, 98), (3, 19, 3, 2, 100), (3, 23, 3, 4, 103), (3, 26, 3, 5, 104), (3, 29, 3, 6, 105), (3, 32, 3, 7, 106), (3, 35, 3, 8, 107), (3, 38, 3, 3, 102), (4, 9, 4, 1, 155), (4, 15, 4, 2, 157), (4, 18, 4, 3, 159), (4, 21, 4, 4, 160), (4, 24, 4, 0, 152), (4, 28, 4, 5, 161), (5, 9, 5, 0, 135), (5, 15, 5, 1, 137), (6, 9, 6, 0, 324), (6, 15, 6, 1, 325), (6, 22, 6, 2, 326), (6, 29, 6, 3, 328), (6, 33, 6, 4, 330), (6, 37, 6, 5, 331), (6, 51, 0, 4, 226), (6, 60, 0, 5, 229), (6, 63, 0, 0, 217), (6, 70, 0, 1, 219), (6, 74, 3, 0, 97), (6, 89, 0, 7, 235), (6, 103, 1, 0, 286)] : List (Nat × Nat × Nat × Nat × Nat)).all fldChk = true := by decide +kernel
theorem fldT_1 : ([(6, 104, 1, 5, 294), (6, 105, 1, 6, 297), (6, 108, 1, 3, 291), (6, 111, 0, 6, 232), (6, 114, 1, 7, 300), (6, 120, 1, 1, 288), (6, 123, 0, 8, 238), (6, 126, 0, 9, 241), (6, 129, 0, 2, 222), (6, 136, 0, 3, 224), (6, 143, 1, 8, 303), (6, 149, 0, 10, 244), (6, 155, 0, 12, 249), (6, 172, 3, 1, 99), (6, 187, 4, 0, 153), (6, 192, 4, 1, 156), (6, 193, 4, 2, 158), (7, 10, 7, 0, 346), (7, 19, 7, 1, 347), (7, 26, 7, 2, 348), (7, 33, 7, 3, 349), (7, 42, 7, 4, 350), (7, 46, 7, 5, 351), (7, 49, 7, 6, 352), (7, 52, 7, 7, 353), (7, 56, 6, 2, 327), (7, 60, 0, 0, 216), (7, 65, 6, 3, 329), (7, 69, 1, 0, 285), (7, 76, 3, 0, 96), (7, 104, 3, 3, 101), (7, 114, 5, 1, 139), (7, 121, 2, 0, 184), (7, 128, 6, 5, 332), (7, 141, 0, 4, 227), (7, 156, 0, 5, 230), (7, 159, 0, 6, 233), (7, 162, 0, 7, 236), (7, 165, 0, 8, 239), (7, 168, 0, 9, 242), (7, 171, 0, 10, 245), (7, 174, 0, 11, 247), (7, 177, 0, 1, 220), (7, 181, 0, 12, 250), (7, 188, 1, 5, 295), (7, 189, 1, 6, 298), (7, 192, 1, 7, 301), (7, 195, 1, 8, 304), (7, 218, 4, 0, 154), (8, 1, 8, 0, 935), (8, 11, 8, 2, 937), (8, 14, 8, 1, 936), (8, 24, 8, 4, 939), (8, 27, 8, 5, 940), (8, 30, 8, 6, 941), (8, 56, 8, 9, 944), (8, 59, 8, 10, 945), (8, 62, 8, 11, 946), (8, 65, 8, 12, 947), (8, 69, 8, 14, 949)] : List (Nat × Nat × Nat × Nat × Nat)).all fldChk = true := by decide +kernel
theorem fldT_2 : ([(8, 72, 8, 15, 950), (8, 75, 8, 16, 951), (8, 78, 8, 17, 952), (8, 81, 8, 19, 954), (8, 84, 8, 20, 955), (8, 87, 8, 21, 956), (8, 90, 8, 22, 957), (8, 93, 8, 24, 959), (8, 96, 8, 25, 960), (8, 99, 8, 26, 961), (8, 102, 8, 27, 962), (8, 105, 8, 29, 964), (8, 108, 8, 30, 965), (8, 111, 8, 31, 966), (8, 114, 8, 32, 967), (8, 117, 8, 33, 968), (8, 120, 8, 34, 969), (8, 123, 8, 35, 970), (8, 126, 8, 36, 971), (8, 129, 8, 37, 972), (8, 132, 8, 42, 977), (8, 135, 8, 43, 978), (8, 138, 8, 44, 979), (8, 141, 8, 45, 980), (8, 144, 8, 46, 981), (8, 151, 8, 3, 938), (8, 170, 8, 7, 942), (8, 173, 8, 8, 943), (8, 189, 8, 13, 948), (8, 192, 8, 18, 953), (8, 195, 8, 23, 958), (8, 201, 8, 28, 963), (8, 204, 8, 39, 974), (8, 207, 8, 40, 975), (8, 213, 8, 38, 973), (8, 226, 8, 41, 976)] : List (Nat × Nat × Nat × Nat × Nat)).all fldChk = true := by decide +kernel
theorem fldT_ok : fldT.all fldChk = true := by
  have e : fldT = [(0, 9, 0, 1, 218), (0, 15, 0, 2, 221), (0, 19, 0, 3, 223), (0, 22, 0, 4, 225), (0, 25, 0, 5, 228), (0, 28, 0, 6, 231), (0, 31, 0, 7, 234), (0, 34, 0, 8, 237), (0, 37, 0, 9, 240), (0, 40, 0, 10, 243), (0, 43, 0, 11, 246), (0, 46, 0, 12, 248), (0, 49, 0, 0, 215), (1, 9, 1, 1, 287), (1, 15, 1, 2, 289), (1, 18, 1, 3, 290), (1, 21, 1, 4, 292), (1, 24, 1, 5, 293), (1, 27, 1, 6, 296), (1, 30, 1, 7, 299), (1, 33, 1, 8, 302), (1, 36, 1, 0, 284), (2, 12, 2, 0, 183), (2, 18, 2, 1, 185), (2, 22, 2, 2, 186), (2, 25, 2, 3, 187), (2, 35, 2, 5, 189), (2, 47, 2, 4, 188), (2, 50, 5, 1, 138), (2, 55, 5, 0, 136), (3, 9, 3, 0, 95), (3, 15, 3, 1, 98), (3, 19, 3, 2, 100), (3, 23, 3, 4, 103), (3, 26, 3, 5, 104), (3, 29, 3, 6, 105), (3, 32, 3, 7, 106), (3, 35, 3, 8, 107), (3, 38, 3, 3, 102), (4, 9, 4, 1, 155), (4, 15, 4, 2, 157), (4, 18, 4, 3, 159), (4, 21, 4, 4, 160), (4, 24, 4, 0, 152), (4, 28, 4, 5, 161), (5, 9, 5, 0, 135), (5, 15, 5, 1, 137), (6, 9, 6, 0, 324), (6, 15, 6, 1, 325), (6, 22, 6, 2, 326), (6, 29, 6, 3, 328), (6, 33, 6, 4, 330), (6, 37, 6, 5, 331), (6, 51, 0, 4, 226), (6, 60, 0, 5, 229), (6, 63, 0, 0, 217), (6, 70, 0, 1, 219), (6, 74, 3, 0, 97), (6, 89, 0, 7, 235), (6, 103, 1, 0, 286)] ++ [(6, 104, 1, 5, 294), (6, 105, 1, 6, 297), (6, 108, 1, 3, 291), (6, 111, 0, 6, 232), (6, 114, 1, 7, 300), (6, 120, 1, 1, 288), (6, 123, 0, 8, 238), (6, 126, 0, 9, 241), (6, 129, 0, 2, 222), (6, 136, 0, 3, 224), (6, 143, 1, 8, 303), (6, 149, 0, 10, 244), (6, 155, 0, 12, 249), (6, 172, 3, 1, 99), (6, 187, 4, 0, 153), (6, 192, 4, 1, 156), (6, 193, 4, 2, 158), (7, 10, 7, 0, 346), (7, 19, 7, 1, 347), (7, 26, 7, 2, 348), (7, 33, 7, 3, 349), (7, 42, 7, 4, 350), (7, 46, 7, 5, 351), (7, 49, 7, 6, 352), (7, 52, 7, 7, 353), (7, 56, 6, 2, 327), (7, 60, 0, 0, 216), (7, 65, 6, 3, 329), (7, 69, 1, 0, 285), (7, 76, 3, 0, 96), (7, 104, 3, 3, 101), (7, 114, 5, 1, 139), (7, 121, 2, 0, 184), (7, 128, 6, 5, 332), (7, 141, 0, 4, 227), (7, 156, 0, 5, 230), (7, 159, 0, 6, 233), (7, 162, 0, 7, 236), (7, 165, 0, 8, 239), (7, 168, 0, 9, 242), (7, 171, 0, 10, 245), (7, 174, 0, 11, 247), (7, 177, 0, 1, 220), (7, 181, 0, 12, 250), (7, 188, 1, 5, 295), (7, 189, 1, 6, 298), (7, 192, 1, 7, 301), (7, 195, 1, 8, 304), (7, 218, 4, 0, 154), (8, 1, 8, 0, 935), (8, 11, 8, 2, 937), (8, 14, 8, 1, 936), (8, 24, 8, 4, 939), (8, 27, 8, 5, 940), (8, 30, 8, 6, 941), (8, 56, 8, 9, 944), (8, 59, 8, 10, 945), (8, 62, 8, 11, 946), (8, 65, 8, 12, 947), (8, 69, 8, 14, 949)] ++ [(8, 72, 8, 15, 950), (8, 75, 8, 16, 951), (8, 78, 8, 17, 952), (8, 81, 8, 19, 954), (8, 84, 8, 20, 955), (8, 87, 8, 21, 956), (8, 90, 8, 22, 957), (8, 93, 8, 24, 959), (8, 96, 8, 25, 960), (8, 99, 8, 26, 961), (8, 102, 8, 27, 962), (8, 105, 8, 29, 964), (8, 108, 8, 30, 965), (8, 111, 8, 31, 966), (8, 114, 8, 32, 967), (8, 117, 8, 33, 968), (8, 120, 8, 34, 969), (8, 123, 8, 35, 970), (8, 126, 8, 36, 971), (8, 129, 8, 37, 972), (8, 132, 8, 42, 977), (8, 135, 8, 43, 978), (8, 138, 8, 44, 979), (8, 141, 8, 45, 980), (8, 144, 8, 46, 981), (8, 151, 8, 3, 938), (8, 170, 8, 7, 942), (8, 173, 8, 8, 943), (8, 189, 8, 13, 948), (8, 192, 8, 18, 953), (8, 195, 8, 23, 958), (8, 201, 8, 28, 963), (8, 204, 8, 39, 974), (8, 207, 8, 40, 975), (8, 213, 8, 38, 973), (8, 226, 8, 41, 976)] := rfl
  rw [e]
  simp only [List.all_append, Bool.and_eq_true]
  exact ⟨⟨fldT_0, fldT_1⟩, fldT_2⟩
theorem fld_ok {own idx ci j : Nat} (h : fld own idx = some (ci, j)) : ∃ p, fldChk (own, idx, ci, j, p) = true := by
  simp only [fld, Option.map_eq_some_iff] at h
  obtain ⟨e, he, h2⟩ := h
  have h3 := List.find?_some he
  have h4 := List.mem_of_find?_eq_some he
  simp only [Bool.and_eq_true, beq_iff_eq] at h3
  obtain ⟨a, b, c, d, p⟩ := e
  simp only [Prod.mk.injEq] at h2 h3
  obtain ⟨rfl, rfl⟩ := h2
  obtain ⟨rfl, rfl⟩ := h3
  exact ⟨p, List.all_eq_true.mp fldT_ok _ h4⟩
theorem inq_0 : (List.range 13).all (fun k => isW (([251, 253, 255, 257, 259, 261, 263, 265, 267, 269, 271, 273, 275] : List Nat).getD k 0) (u_lay RX0 TX0 k)) = true := by decide +kernel
theorem inG_0 : ∀ w ∈ u_ws RX0 TX0 13, w ∈ lw_g := by
  intro w hw
  obtain ⟨k, hk, rfl⟩ := List.mem_map.mp hw
  exact isW_in (List.all_eq_true.mp inq_0 k hk)
theorem inq_1 : (List.range 9).all (fun k => isW (([305, 307, 309, 311, 313, 315, 317, 319, 321] : List Nat).getD k 0) (u_lay RX1 TX1 k)) = true := by decide +kernel
theorem inG_1 : ∀ w ∈ u_ws RX1 TX1 9, w ∈ lw_g := by
  intro w hw
  obtain ⟨k, hk, rfl⟩ := List.mem_map.mp hw
  exact isW_in (List.all_eq_true.mp inq_1 k hk)
theorem inq_2 : (List.range 6).all (fun k => isW (([190, 192, 194, 196, 198, 200] : List Nat).getD k 0) (u_lay RX2 TX2 k)) = true := by decide +kernel
theorem inG_2 : ∀ w ∈ u_ws RX2 TX2 6, w ∈ lw_g := by
  intro w hw
  obtain ⟨k, hk, rfl⟩ := List.mem_map.mp hw
  exact isW_in (List.all_eq_true.mp inq_2 k hk)
theorem inq_3 : (List.range 9).all (fun k => isW (([108, 110, 112, 114, 116, 118, 120, 122, 124] : List Nat).getD k 0) (u_lay RX3 TX3 k)) = true := by decide +kernel
theorem inG_3 : ∀ w ∈ u_ws RX3 TX3 9, w ∈ lw_g := by
  intro w hw
  obtain ⟨k, hk, rfl⟩ := List.mem_map.mp hw
  exact isW_in (List.all_eq_true.mp inq_3 k hk)
theorem inq_4 : (List.range 6).all (fun k => isW (([162, 164, 166, 168, 170, 172] : List Nat).getD k 0) (u_lay RX4 TX4 k)) = true := by decide +kernel
theorem inG_4 : ∀ w ∈ u_ws RX4 TX4 6, w ∈ lw_g := by
  intro w hw
  obtain ⟨k, hk, rfl⟩ := List.mem_map.mp hw
  exact isW_in (List.all_eq_true.mp inq_4 k hk)
theorem inq_5 : (List.range 2).all (fun k => isW (([140, 142] : List Nat).getD k 0) (u_lay RX5 TX5 k)) = true := by decide +kernel
theorem inG_5 : ∀ w ∈ u_ws RX5 TX5 2, w ∈ lw_g := by
  intro w hw
  obtain ⟨k, hk, rfl⟩ := List.mem_map.mp hw
  exact isW_in (List.all_eq_true.mp inq_5 k hk)
theorem inq_6 : (List.range 6).all (fun k => isW (([333, 335, 337, 339, 341, 343] : List Nat).getD k 0) (u_lay RX6 TX6 k)) = true := by decide +kernel
theorem inG_6 : ∀ w ∈ u_ws RX6 TX6 6, w ∈ lw_g := by
  intro w hw
  obtain ⟨k, hk, rfl⟩ := List.mem_map.mp hw
  exact isW_in (List.all_eq_true.mp inq_6 k hk)
theorem inq_7 : (List.range 8).all (fun k => isW (([354, 356, 358, 360, 362, 364, 366, 368] : List Nat).getD k 0) (u_lay RX7 TX7 k)) = true := by decide +kernel
theorem inG_7 : ∀ w ∈ u_ws RX7 TX7 8, w ∈ lw_g := by
  intro w hw
  obtain ⟨k, hk, rfl⟩ := List.mem_map.mp hw
  exact isW_in (List.all_eq_true.mp inq_7 k hk)
theorem inq_8 : (List.range 47).all (fun k => isW (([982, 984, 986, 988, 990, 992, 994, 996, 998, 1000, 1002, 1004, 1006, 1008, 1010, 1012, 1014, 1016, 1018, 1020, 1022, 1024, 1026, 1028, 1030, 1032, 1034, 1036, 1038, 1040, 1042, 1044, 1046, 1048, 1050, 1052, 1054, 1056, 1058, 1060, 1062, 1064, 1066, 1068, 1070, 1072, 1074] : List Nat).getD k 0) (u_lay RX8 TX8 k)) = true := by decide +kernel
theorem inG_8 : ∀ w ∈ u_ws RX8 TX8 47, w ∈ lw_g := by
  intro w hw
  obtain ⟨k, hk, rfl⟩ := List.mem_map.mp hw
  exact isW_in (List.all_eq_true.mp inq_8 k hk)
theorem cls_ok {ci : Nat} (h : ci < 9) : vwCl[ci]? = some (clsN ci, vT ci, vN ci) ∧ (∀ w ∈ u_ws (clsN ci) (vT ci) (vN ci), w ∈ lw_g) ∧ (∀ k, k < vN ci → parseFieldDescriptor (vT ci k).2.2.1 = some (vTy ci k)) ∧ (∀ a, a < vN ci → ∀ b, b < vN ci → a ≠ b → (vT ci a).2.1 ≠ (vT ci b).2.1) := by
  match ci, h with
  | 0, _ => exact ⟨rfl, inG_0, tyX0_ok, nmX0⟩
  | 1, _ => exact ⟨rfl, inG_1, tyX1_ok, nmX1⟩
  | 2, _ => exact ⟨rfl, inG_2, tyX2_ok, nmX2⟩
  | 3, _ => exact ⟨rfl, inG_3, tyX3_ok, nmX3⟩
  | 4, _ => exact ⟨rfl, inG_4, tyX4_ok, nmX4⟩
  | 5, _ => exact ⟨rfl, inG_5, tyX5_ok, nmX5⟩
  | 6, _ => exact ⟨rfl, inG_6, tyX6_ok, nmX6⟩
  | 7, _ => exact ⟨rfl, inG_7, tyX7_ok, nmX7⟩
  | 8, _ => exact ⟨rfl, inG_8, tyX8_ok, nmX8⟩
def newT : List (Nat × Nat × Nat × Nat) := [(2, 9, 4, 181), (6, 19, 0, 209), (6, 26, 1, 278), (7, 7, 3, 89), (7, 16, 5, 129), (7, 23, 4, 146), (7, 30, 2, 175), (7, 37, 6, 203), (9, 8, 7, 81), (9, 19, 8, 919)]
def newC (own idx : Nat) : Option Nat := (newT.find? (fun e => e.1 == own && e.2.1 == idx)).map (fun e => e.2.2.1)
def insP : Nat → Nat × Nat := fun c => match c with
  | 0 => (210, 67)
  | 1 => (279, 68)
  | 2 => (176, 65)
  | 3 => (90, 62)
  | 4 => (147, 64)
  | 5 => (130, 63)
  | 6 => (204, 66)
  | 7 => (82, 61)
  | 8 => (917, 69)
  | _ => (0, 0)
def newChk (e : Nat × Nat × Nat × Nat) : Bool := decide (e.2.2.1 < 9) && isW e.2.2.2 (.classLink (clsN e.1) e.2.1 (clsN e.2.2.1)) && isW (insP e.2.2.1).1 (.instantiable (clsN e.2.2.1) (vN e.2.2.1)) && isW (insP e.2.2.1).2 (.initialized (clsN e.2.2.1))
theorem newT_ok : newT.all newChk = true := by decide +kernel
theorem new_ok {own idx ci : Nat} (h : newC own idx = some ci) : ∃ p, newChk (own, idx, ci, p) = true := by
  simp only [newC, Option.map_eq_some_iff] at h
  obtain ⟨e, he, h2⟩ := h
  have h3 := List.find?_some he
  have h4 := List.mem_of_find?_eq_some he
  simp only [Bool.and_eq_true, beq_iff_eq] at h3
  obtain ⟨a, b, c, p⟩ := e
  simp only at h2 h3
  subst h2
  obtain ⟨rfl, rfl⟩ := h3
  exact ⟨p, List.all_eq_true.mp newT_ok _ h4⟩
def oinT : List (Nat × Nat × Nat) := [(0, 3, 214), (1, 3, 283), (2, 3, 180), (3, 3, 94), (4, 3, 151), (5, 3, 134), (6, 3, 208), (7, 1, 86), (8, 18, 923)]
def oinC (own idx : Nat) : Bool := oinT.any (fun e => e.1 == own && e.2.1 == idx)
theorem oinT_ok : oinT.all (fun e => isW e.2.2 (.methodLink (clsN e.1) e.2.1 objectInit)) = true := by decide +kernel
theorem oin_inst : Cond.instanceMethod objectInit ∈ lw_g := isW_in (p := 87) (by decide +kernel)
set_option maxRecDepth 40000 in
theorem oin_code : Cond.code objectInit ⟨#[0xb1]⟩ 1 none ∈ lw_g := g_in (p := 88) rfl rfl
theorem oin_ok {own idx : Nat} (h : oinC own idx = true) : Cond.methodLink (clsN own) idx objectInit ∈ lw_g := by
  obtain ⟨⟨a, b, p⟩, h1, h2⟩ := List.any_eq_true.mp h
  simp only [Bool.and_eq_true, beq_iff_eq] at h2
  obtain ⟨rfl, rfl⟩ := h2
  exact isW_in (List.all_eq_true.mp oinT_ok _ h1)
def acpT : List (Nat × Nat × Nat) := [(0, 53, 779), (1, 49, 784), (4, 31, 623)]
def acpC (own idx : Nat) : Bool := acpT.any (fun e => e.1 == own && e.2.1 == idx)
theorem acpT_ok : acpT.all (fun e => isW e.2.2 (.methodLink (clsN e.1) e.2.1 arraycopyName)) = true := by decide +kernel
theorem acp_ok {own idx : Nat} (h : acpC own idx = true) : Cond.methodLink (clsN own) idx arraycopyName ∈ lw_g := by
  obtain ⟨⟨a, b, p⟩, h1, h2⟩ := List.any_eq_true.mp h
  simp only [Bool.and_eq_true, beq_iff_eq] at h2
  obtain ⟨rfl, rfl⟩ := h2
  exact isW_in (List.all_eq_true.mp acpT_ok _ h1)
theorem acp_nat : Cond.native arraycopyName ∈ lw_g := isW_in (p := 625) (by decide +kernel)
theorem acp_sta : Cond.static arraycopyName ∈ lw_g := isW_in (p := 624) (by decide +kernel)
theorem acp_ini : Cond.initialized "java/lang/System" ∈ lw_g := isW_in (p := 76) (by decide +kernel)
def cstT : List (Nat × Nat × Int64 × Nat) := [(8, 34, 57, 924), (8, 36, 1166741, 925), (8, 38, 1176170, 926), (8, 40, 1891, 927), (8, 42, 793, 928), (8, 44, 1119656265, 929), (8, 46, 1402347749, 930), (8, 48, 609950, 931), (8, 50, 609928, 932), (8, 52, 426554, 933), (8, 54, 38396690, 934), (8, 154, 37, 1113), (8, 163, 10, 1120), (8, 165, 48, 1121), (9, 46, 4294967295, 1285)]
def cstC (own idx : Nat) : Option Int64 := (cstT.find? (fun e => e.1 == own && e.2.1 == idx)).map (fun e => e.2.2.1)
theorem cstT_ok : cstT.all (fun e => isW e.2.2.2 (.constantLong (clsN e.1) e.2.1 e.2.2.1)) = true := by decide +kernel
theorem cst_ok {own idx : Nat} {v : Int64} (h : cstC own idx = some v) : Cond.constantLong (clsN own) idx v ∈ lw_g := by
  simp only [cstC, Option.map_eq_some_iff] at h
  obtain ⟨⟨a, b, c, p⟩, he, rfl⟩ := h
  have h3 := List.find?_some he
  have h4 := List.mem_of_find?_eq_some he
  simp only [Bool.and_eq_true, beq_iff_eq] at h3
  obtain ⟨rfl, rfl⟩ := h3
  exact isW_in (List.all_eq_true.mp cstT_ok _ h4)
def mthT : List (Nat × Nat × Nat × Nat) := [(1, 44, 0, 679), (2, 63, 1, 450), (6, 54, 2, 789), (11, 92, 1, 532), (11, 38, 2, 533)]
def mthC (own idx : Nat) : Option Nat := (mthT.find? (fun e => e.1 == own && e.2.1 == idx)).map (fun e => e.2.2.1)
def mthY (q : Nat) : MethodName := if q = 0 then Lib.Math.abs.name else if q = 1 then Lib.Math.max.name else Lib.Math.min.name
theorem mthT_ok : mthT.all (fun e => isW e.2.2.2 (.methodLink (clsN e.1) e.2.1 (mthY e.2.2.1))) = true := by decide +kernel
theorem mth_ok {own idx q : Nat} (h : mthC own idx = some q) : Cond.methodLink (clsN own) idx (mthY q) ∈ lw_g := by
  simp only [mthC, Option.map_eq_some_iff] at h
  obtain ⟨⟨a, b, c, p⟩, he, rfl⟩ := h
  have h3 := List.find?_some he
  have h4 := List.mem_of_find?_eq_some he
  simp only [Bool.and_eq_true, beq_iff_eq] at h3
  obtain ⟨rfl, rfl⟩ := h3
  exact isW_in (List.all_eq_true.mp mthT_ok _ h4)
theorem mth_st0 : Cond.static Lib.Math.abs.name ∈ lw_g := isW_in (p := 680) (by decide +kernel)
set_option maxRecDepth 40000 in
theorem mth_cd0 : Cond.code Lib.Math.abs.name Lib.Math.abs.code 1 (some .int) ∈ lw_g := g_in (p := 681) rfl rfl
theorem mth_st1 : Cond.static Lib.Math.max.name ∈ lw_g := isW_in (p := 451) (by decide +kernel)
set_option maxRecDepth 40000 in
theorem mth_cd1 : Cond.code Lib.Math.max.name Lib.Math.max.code 2 (some .int) ∈ lw_g := g_in (p := 452) rfl rfl
theorem mth_st2 : Cond.static Lib.Math.min.name ∈ lw_g := isW_in (p := 534) (by decide +kernel)
set_option maxRecDepth 40000 in
theorem mth_cd2 : Cond.code Lib.Math.min.name Lib.Math.min.code 2 (some .int) ∈ lw_g := g_in (p := 535) rfl rfl
theorem mth_ini : Cond.initialized "java/lang/Math" ∈ lw_g := isW_in (p := 70) (by decide +kernel)
theorem arr_int : Cond.arrayClass .int ∈ lw_g := isW_in (p := 127) (by decide +kernel)
theorem arr_boolean : Cond.arrayClass .boolean ∈ lw_g := isW_in (p := 128) (by decide +kernel)
theorem arr_char : Cond.arrayClass .char ∈ lw_g := isW_in (p := 145) (by decide +kernel)
theorem arr_long : Cond.arrayClass .long ∈ lw_g := isW_in (p := 1077) (by decide +kernel)
theorem fl_str9 : Cond.fieldLink RJ0 9 "java/lang/String" "value" "[B" ∈ lw_g := isW_in (p := 1300) (by decide +kernel)
theorem fl_str15 : Cond.fieldLink RJ0 15 "java/lang/String" "coder" "B" ∈ lw_g := isW_in (p := 1299) (by decide +kernel)
theorem fl_str38 : Cond.fieldLink RJ0 38 "java/lang/String" "COMPACT_STRINGS" "Z" ∈ lw_g := isW_in (p := 469) (by decide +kernel)
theorem fl_str1053 : Cond.fieldLink RJ0 1053 "jdk/internal/util/Preconditions" "SIOOBE_FORMATTER" "Ljava/util/function/BiFunction;" ∈ lw_g := isW_in (p := 477) (by decide +kernel)
