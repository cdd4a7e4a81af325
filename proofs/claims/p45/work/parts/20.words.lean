def sOn (k : Nat) : String := bif Nat.ble 9 k then (bif Nat.ble 14 k then (bif Nat.ble 16 k then (bif Nat.ble 17 k then (bif Nat.ble 18 k then (bif Nat.beq k 18 then "BookExchangeLaw" else "") else (bif Nat.beq k 17 then "jdk/internal/util/Preconditions" else "")) else (bif Nat.beq k 16 then "jdk/internal/util/ArraysSupport" else "")) else (bif Nat.ble 15 k then (bif Nat.beq k 15 then "java/util/Objects" else "") else (bif Nat.beq k 14 then "java/util/ArrayList" else ""))) else (bif Nat.ble 11 k then (bif Nat.ble 12 k then (bif Nat.ble 13 k then (bif Nat.beq k 13 then "java/util/AbstractList" else "") else (bif Nat.beq k 12 then "java/util/AbstractCollection" else "")) else (bif Nat.beq k 11 then "BookExchange" else "")) else (bif Nat.ble 10 k then (bif Nat.beq k 10 then "BookExchange$Ways" else "") else (bif Nat.beq k 9 then "BookExchange$Trade" else "")))) else (bif Nat.ble 4 k then (bif Nat.ble 6 k then (bif Nat.ble 7 k then (bif Nat.ble 8 k then (bif Nat.beq k 8 then "BookExchange$Order" else "") else (bif Nat.beq k 7 then "BookExchange$Member" else "")) else (bif Nat.beq k 6 then "BookExchange$Matching" else "")) else (bif Nat.ble 5 k then (bif Nat.beq k 5 then "BookExchange$House" else "") else (bif Nat.beq k 4 then "BookExchange$Floor" else ""))) else (bif Nat.ble 2 k then (bif Nat.ble 3 k then (bif Nat.beq k 3 then "BookExchange$Defaults" else "") else (bif Nat.beq k 2 then "BookExchange$Contract" else "")) else (bif Nat.ble 1 k then (bif Nat.beq k 1 then "BookExchange$Book" else "") else (bif Nat.beq k 0 then "BookExchange$Auctions" else ""))))
noncomputable def sOw (i : Nat) : Nat := bif Nat.ble 87 i then (bif Nat.ble 132 i then (bif Nat.ble 257 i then (bif Nat.ble 268 i then (bif Nat.ble 273 i then (bif Nat.ble 276 i then (bif Nat.ble 277 i then (bif Nat.ble 297 i then (bif Nat.beq i 297 then 18 else 0) else (bif Nat.beq i 277 then 18 else 0)) else (bif Nat.beq i 276 then 18 else 0)) else (bif Nat.ble 274 i then (bif Nat.ble 275 i then (bif Nat.beq i 275 then 18 else 0) else (bif Nat.beq i 274 then 18 else 0)) else (bif Nat.beq i 273 then 18 else 0))) else (bif Nat.ble 270 i then (bif Nat.ble 271 i then (bif Nat.ble 272 i then (bif Nat.beq i 272 then 18 else 0) else (bif Nat.beq i 271 then 18 else 0)) else (bif Nat.beq i 270 then 18 else 0)) else (bif Nat.ble 269 i then (bif Nat.beq i 269 then 18 else 0) else (bif Nat.beq i 268 then 18 else 0)))) else (bif Nat.ble 262 i then (bif Nat.ble 265 i then (bif Nat.ble 266 i then (bif Nat.ble 267 i then (bif Nat.beq i 267 then 18 else 0) else (bif Nat.beq i 266 then 18 else 0)) else (bif Nat.beq i 265 then 18 else 0)) else (bif Nat.ble 263 i then (bif Nat.ble 264 i then (bif Nat.beq i 264 then 18 else 0) else (bif Nat.beq i 263 then 18 else 0)) else (bif Nat.beq i 262 then 18 else 0))) else (bif Nat.ble 259 i then (bif Nat.ble 260 i then (bif Nat.ble 261 i then (bif Nat.beq i 261 then 18 else 0) else (bif Nat.beq i 260 then 18 else 0)) else (bif Nat.beq i 259 then 18 else 0)) else (bif Nat.ble 258 i then (bif Nat.beq i 258 then 17 else 0) else (bif Nat.beq i 257 then 16 else 0))))) else (bif Nat.ble 246 i then (bif Nat.ble 251 i then (bif Nat.ble 254 i then (bif Nat.ble 255 i then (bif Nat.ble 256 i then (bif Nat.beq i 256 then 15 else 0) else (bif Nat.beq i 255 then 14 else 0)) else (bif Nat.beq i 254 then 14 else 0)) else (bif Nat.ble 252 i then (bif Nat.ble 253 i then (bif Nat.beq i 253 then 14 else 0) else (bif Nat.beq i 252 then 14 else 0)) else (bif Nat.beq i 251 then 14 else 0))) else (bif Nat.ble 248 i then (bif Nat.ble 249 i then (bif Nat.ble 250 i then (bif Nat.beq i 250 then 14 else 0) else (bif Nat.beq i 249 then 14 else 0)) else (bif Nat.beq i 248 then 14 else 0)) else (bif Nat.ble 247 i then (bif Nat.beq i 247 then 14 else 0) else (bif Nat.beq i 246 then 13 else 0)))) else (bif Nat.ble 137 i then (bif Nat.ble 140 i then (bif Nat.ble 141 i then (bif Nat.ble 245 i then (bif Nat.beq i 245 then 12 else 0) else (bif Nat.beq i 141 then 11 else 0)) else (bif Nat.beq i 140 then 11 else 0)) else (bif Nat.ble 138 i then (bif Nat.ble 139 i then (bif Nat.beq i 139 then 11 else 0) else (bif Nat.beq i 138 then 11 else 0)) else (bif Nat.beq i 137 then 11 else 0))) else (bif Nat.ble 134 i then (bif Nat.ble 135 i then (bif Nat.ble 136 i then (bif Nat.beq i 136 then 11 else 0) else (bif Nat.beq i 135 then 11 else 0)) else (bif Nat.beq i 134 then 11 else 0)) else (bif Nat.ble 133 i then (bif Nat.beq i 133 then 11 else 0) else (bif Nat.beq i 132 then 11 else 0)))))) else (bif Nat.ble 108 i then (bif Nat.ble 120 i then (bif Nat.ble 126 i then (bif Nat.ble 129 i then (bif Nat.ble 130 i then (bif Nat.ble 131 i then (bif Nat.beq i 131 then 11 else 0) else (bif Nat.beq i 130 then 11 else 0)) else (bif Nat.beq i 129 then 11 else 0)) else (bif Nat.ble 127 i then (bif Nat.ble 128 i then (bif Nat.beq i 128 then 11 else 0) else (bif Nat.beq i 127 then 11 else 0)) else (bif Nat.beq i 126 then 11 else 0))) else (bif Nat.ble 122 i then (bif Nat.ble 123 i then (bif Nat.ble 125 i then (bif Nat.beq i 125 then 11 else 0) else (bif Nat.beq i 123 then 11 else 0)) else (bif Nat.beq i 122 then 11 else 0)) else (bif Nat.ble 121 i then (bif Nat.beq i 121 then 11 else 0) else (bif Nat.beq i 120 then 11 else 0)))) else (bif Nat.ble 114 i then (bif Nat.ble 117 i then (bif Nat.ble 118 i then (bif Nat.ble 119 i then (bif Nat.beq i 119 then 11 else 0) else (bif Nat.beq i 118 then 11 else 0)) else (bif Nat.beq i 117 then 11 else 0)) else (bif Nat.ble 115 i then (bif Nat.ble 116 i then (bif Nat.beq i 116 then 11 else 0) else (bif Nat.beq i 115 then 11 else 0)) else (bif Nat.beq i 114 then 11 else 0))) else (bif Nat.ble 110 i then (bif Nat.ble 111 i then (bif Nat.ble 113 i then (bif Nat.beq i 113 then 11 else 0) else (bif Nat.beq i 111 then 11 else 0)) else (bif Nat.beq i 110 then 11 else 0)) else (bif Nat.ble 109 i then (bif Nat.beq i 109 then 11 else 0) else (bif Nat.beq i 108 then 11 else 0))))) else (bif Nat.ble 97 i then (bif Nat.ble 102 i then (bif Nat.ble 105 i then (bif Nat.ble 106 i then (bif Nat.ble 107 i then (bif Nat.beq i 107 then 11 else 0) else (bif Nat.beq i 106 then 11 else 0)) else (bif Nat.beq i 105 then 11 else 0)) else (bif Nat.ble 103 i then (bif Nat.ble 104 i then (bif Nat.beq i 104 then 11 else 0) else (bif Nat.beq i 103 then 11 else 0)) else (bif Nat.beq i 102 then 11 else 0))) else (bif Nat.ble 99 i then (bif Nat.ble 100 i then (bif Nat.ble 101 i then (bif Nat.beq i 101 then 11 else 0) else (bif Nat.beq i 100 then 11 else 0)) else (bif Nat.beq i 99 then 11 else 0)) else (bif Nat.ble 98 i then (bif Nat.beq i 98 then 11 else 0) else (bif Nat.beq i 97 then 11 else 0)))) else (bif Nat.ble 92 i then (bif Nat.ble 94 i then (bif Nat.ble 95 i then (bif Nat.ble 96 i then (bif Nat.beq i 96 then 11 else 0) else (bif Nat.beq i 95 then 11 else 0)) else (bif Nat.beq i 94 then 11 else 0)) else (bif Nat.ble 93 i then (bif Nat.beq i 93 then 11 else 0) else (bif Nat.beq i 92 then 11 else 0))) else (bif Nat.ble 89 i then (bif Nat.ble 90 i then (bif Nat.ble 91 i then (bif Nat.beq i 91 then 11 else 0) else (bif Nat.beq i 90 then 11 else 0)) else (bif Nat.beq i 89 then 11 else 0)) else (bif Nat.ble 88 i then (bif Nat.beq i 88 then 11 else 0) else (bif Nat.beq i 87 then 11 else 0))))))) else (bif Nat.ble 43 i then (bif Nat.ble 65 i then (bif Nat.ble 76 i then (bif Nat.ble 81 i then (bif Nat.ble 84 i then (bif Nat.ble 85 i then (bif Nat.ble 86 i then (bif Nat.beq i 86 then 11 else 0) else (bif Nat.beq i 85 then 11 else 0)) else (bif Nat.beq i 84 then 11 else 0)) else (bif Nat.ble 82 i then (bif Nat.ble 83 i then (bif Nat.beq i 83 then 11 else 0) else (bif Nat.beq i 82 then 10 else 0)) else (bif Nat.beq i 81 then 10 else 0))) else (bif Nat.ble 78 i then (bif Nat.ble 79 i then (bif Nat.ble 80 i then (bif Nat.beq i 80 then 10 else 0) else (bif Nat.beq i 79 then 10 else 0)) else (bif Nat.beq i 78 then 10 else 0)) else (bif Nat.ble 77 i then (bif Nat.beq i 77 then 9 else 0) else (bif Nat.beq i 76 then 9 else 0)))) else (bif Nat.ble 70 i then (bif Nat.ble 73 i then (bif Nat.ble 74 i then (bif Nat.ble 75 i then (bif Nat.beq i 75 then 8 else 0) else (bif Nat.beq i 74 then 8 else 0)) else (bif Nat.beq i 73 then 8 else 0)) else (bif Nat.ble 71 i then (bif Nat.ble 72 i then (bif Nat.beq i 72 then 8 else 0) else (bif Nat.beq i 71 then 8 else 0)) else (bif Nat.beq i 70 then 8 else 0))) else (bif Nat.ble 67 i then (bif Nat.ble 68 i then (bif Nat.ble 69 i then (bif Nat.beq i 69 then 7 else 0) else (bif Nat.beq i 68 then 7 else 0)) else (bif Nat.beq i 67 then 6 else 0)) else (bif Nat.ble 66 i then (bif Nat.beq i 66 then 6 else 0) else (bif Nat.beq i 65 then 6 else 0))))) else (bif Nat.ble 54 i then (bif Nat.ble 59 i then (bif Nat.ble 62 i then (bif Nat.ble 63 i then (bif Nat.ble 64 i then (bif Nat.beq i 64 then 6 else 0) else (bif Nat.beq i 63 then 6 else 0)) else (bif Nat.beq i 62 then 6 else 0)) else (bif Nat.ble 60 i then (bif Nat.ble 61 i then (bif Nat.beq i 61 then 6 else 0) else (bif Nat.beq i 60 then 6 else 0)) else (bif Nat.beq i 59 then 6 else 0))) else (bif Nat.ble 56 i then (bif Nat.ble 57 i then (bif Nat.ble 58 i then (bif Nat.beq i 58 then 6 else 0) else (bif Nat.beq i 57 then 6 else 0)) else (bif Nat.beq i 56 then 6 else 0)) else (bif Nat.ble 55 i then (bif Nat.beq i 55 then 6 else 0) else (bif Nat.beq i 54 then 5 else 0)))) else (bif Nat.ble 48 i then (bif Nat.ble 51 i then (bif Nat.ble 52 i then (bif Nat.ble 53 i then (bif Nat.beq i 53 then 5 else 0) else (bif Nat.beq i 52 then 5 else 0)) else (bif Nat.beq i 51 then 5 else 0)) else (bif Nat.ble 49 i then (bif Nat.ble 50 i then (bif Nat.beq i 50 then 5 else 0) else (bif Nat.beq i 49 then 5 else 0)) else (bif Nat.beq i 48 then 5 else 0))) else (bif Nat.ble 45 i then (bif Nat.ble 46 i then (bif Nat.ble 47 i then (bif Nat.beq i 47 then 5 else 0) else (bif Nat.beq i 46 then 5 else 0)) else (bif Nat.beq i 45 then 5 else 0)) else (bif Nat.ble 44 i then (bif Nat.beq i 44 then 5 else 0) else (bif Nat.beq i 43 then 5 else 0)))))) else (bif Nat.ble 21 i then (bif Nat.ble 32 i then (bif Nat.ble 37 i then (bif Nat.ble 40 i then (bif Nat.ble 41 i then (bif Nat.ble 42 i then (bif Nat.beq i 42 then 5 else 0) else (bif Nat.beq i 41 then 4 else 0)) else (bif Nat.beq i 40 then 4 else 0)) else (bif Nat.ble 38 i then (bif Nat.ble 39 i then (bif Nat.beq i 39 then 4 else 0) else (bif Nat.beq i 38 then 4 else 0)) else (bif Nat.beq i 37 then 4 else 0))) else (bif Nat.ble 34 i then (bif Nat.ble 35 i then (bif Nat.ble 36 i then (bif Nat.beq i 36 then 4 else 0) else (bif Nat.beq i 35 then 4 else 0)) else (bif Nat.beq i 34 then 4 else 0)) else (bif Nat.ble 33 i then (bif Nat.beq i 33 then 4 else 0) else (bif Nat.beq i 32 then 4 else 0)))) else (bif Nat.ble 26 i then (bif Nat.ble 29 i then (bif Nat.ble 30 i then (bif Nat.ble 31 i then (bif Nat.beq i 31 then 4 else 0) else (bif Nat.beq i 30 then 4 else 0)) else (bif Nat.beq i 29 then 4 else 0)) else (bif Nat.ble 27 i then (bif Nat.ble 28 i then (bif Nat.beq i 28 then 4 else 0) else (bif Nat.beq i 27 then 4 else 0)) else (bif Nat.beq i 26 then 4 else 0))) else (bif Nat.ble 23 i then (bif Nat.ble 24 i then (bif Nat.ble 25 i then (bif Nat.beq i 25 then 3 else 0) else (bif Nat.beq i 24 then 3 else 0)) else (bif Nat.beq i 23 then 3 else 0)) else (bif Nat.ble 22 i then (bif Nat.beq i 22 then 3 else 0) else (bif Nat.beq i 21 then 3 else 0))))) else (bif Nat.ble 10 i then (bif Nat.ble 15 i then (bif Nat.ble 18 i then (bif Nat.ble 19 i then (bif Nat.ble 20 i then (bif Nat.beq i 20 then 3 else 0) else (bif Nat.beq i 19 then 3 else 0)) else (bif Nat.beq i 18 then 3 else 0)) else (bif Nat.ble 16 i then (bif Nat.ble 17 i then (bif Nat.beq i 17 then 3 else 0) else (bif Nat.beq i 16 then 3 else 0)) else (bif Nat.beq i 15 then 3 else 0))) else (bif Nat.ble 12 i then (bif Nat.ble 13 i then (bif Nat.ble 14 i then (bif Nat.beq i 14 then 3 else 0) else (bif Nat.beq i 13 then 2 else 0)) else (bif Nat.beq i 12 then 2 else 0)) else (bif Nat.ble 11 i then (bif Nat.beq i 11 then 1 else 0) else (bif Nat.beq i 10 then 1 else 0)))) else (bif Nat.ble 5 i then (bif Nat.ble 7 i then (bif Nat.ble 8 i then (bif Nat.ble 9 i then (bif Nat.beq i 9 then 1 else 0) else (bif Nat.beq i 8 then 1 else 0)) else (bif Nat.beq i 7 then 1 else 0)) else (bif Nat.ble 6 i then (bif Nat.beq i 6 then 0 else 0) else (bif Nat.beq i 5 then 0 else 0))) else (bif Nat.ble 2 i then (bif Nat.ble 3 i then (bif Nat.ble 4 i then (bif Nat.beq i 4 then 0 else 0) else (bif Nat.beq i 3 then 0 else 0)) else (bif Nat.beq i 2 then 0 else 0)) else (bif Nat.ble 1 i then (bif Nat.beq i 1 then 0 else 0) else (bif Nat.beq i 0 then 0 else 0)))))))
def sFLt : List (Nat × Nat × Nat × Nat × Nat) := [(0, 9, 0, 0, 2044), (0, 15, 1, 0, 2045), (0, 25, 65, 0, 1202), (0, 29, 129, 0, 1085), (0, 39, 516, 0, 4165), (0, 62, 529, 0, 4195), (0, 70, 523, 0, 4184), (0, 91, 130, 0, 1089), (0, 94, 67, 0, 1213), (0, 97, 513, 0, 4155), (1, 9, 67, 0, 1210), (1, 15, 64, 0, 1198), (1, 18, 65, 0, 1201), (1, 22, 66, 0, 1206), (1, 25, 69, 0, 1217), (1, 29, 70, 0, 1218), (1, 32, 515, 0, 4162), (1, 38, 516, 0, 4167), (1, 41, 529, 0, 4197), (2, 9, 129, 0, 1084), (2, 15, 130, 0, 1088), (2, 18, 131, 0, 1091), (2, 21, 128, 0, 1077), (3, 7, 192, 0, 2057), (3, 13, 321, 0, 1160), (3, 19, 456, 0, 1126), (3, 25, 457, 0, 1128), (3, 33, 458, 0, 1131), (3, 44, 320, 0, 1158), (3, 62, 451, 0, 1116), (3, 65, 129, 0, 1087), (3, 82, 455, 0, 1125), (3, 93, 452, 0, 1120), (3, 99, 324, 0, 1167), (3, 102, 450, 0, 1114), (3, 105, 325, 0, 1168), (4, 11, 256, 0, 1234), (4, 20, 257, 0, 1237), (4, 40, 258, 0, 1239), (4, 44, 525, 0, 4190), (4, 47, 522, 0, 4179), (4, 53, 514, 0, 4158), (4, 61, 523, 0, 4183), (4, 64, 519, 0, 4173), (4, 78, 513, 0, 4154), (4, 89, 520, 0, 4175), (4, 92, 454, 0, 1122), (4, 104, 524, 0, 4187), (4, 111, 521, 0, 4177), (4, 114, 515, 0, 4163), (4, 125, 65, 0, 1205), (4, 133, 66, 0, 1209), (4, 136, 128, 0, 1082), (5, 11, 320, 0, 1156), (5, 19, 321, 0, 1159), (5, 26, 322, 0, 1162), (5, 30, 323, 0, 1165), (5, 53, 129, 0, 1086), (5, 57, 66, 0, 1207), (5, 63, 65, 0, 1203), (5, 74, 576, 0, 2234), (5, 77, 581, 0, 3007), (5, 81, 577, 0, 2237), (5, 85, 580, 0, 3005), (5, 87, 578, 0, 3000), (5, 90, 450, 0, 1113), (5, 93, 451, 0, 1117), (5, 100, 128, 0, 1081), (5, 112, 454, 0, 1123), (5, 115, 457, 0, 1129), (6, 12, 387, 0, 2028), (6, 18, 384, 0, 2025), (6, 22, 385, 0, 2026), (6, 26, 386, 0, 2027), (6, 31, 523, 0, 4182), (6, 37, 322, 0, 1163), (6, 46, 514, 0, 4157), (6, 50, 515, 0, 4161), (6, 72, 513, 0, 4153), (6, 101, 68, 0, 1215), (6, 126, 516, 0, 4166), (6, 129, 529, 0, 4196), (6, 142, 66, 0, 1208), (6, 146, 65, 0, 1204), (6, 153, 527, 0, 4193), (6, 156, 528, 0, 4194), (6, 164, 128, 0, 1080), (6, 167, 256, 0, 1236), (6, 171, 67, 0, 1214), (6, 174, 64, 0, 1200), (6, 183, 526, 0, 4192), (6, 196, 524, 0, 4188), (7, 9, 449, 0, 1110), (7, 15, 448, 0, 1108), (7, 19, 128, 0, 1078), (8, 9, 522, 0, 4178), (8, 15, 512, 0, 4150), (8, 18, 513, 0, 4152), (8, 22, 514, 0, 4156), (8, 26, 515, 0, 4160), (8, 30, 516, 0, 4164), (8, 33, 517, 0, 4169), (8, 36, 523, 0, 4181), (8, 39, 518, 0, 4171), (8, 42, 525, 0, 4191), (8, 51, 524, 0, 4186), (9, 7, 576, 0, 2233), (9, 13, 577, 0, 2236), (9, 17, 578, 0, 2239), (9, 20, 579, 0, 3002), (9, 24, 580, 0, 3004), (9, 27, 128, 0, 1079), (9, 32, 449, 0, 1111), (9, 38, 451, 0, 1115), (10, 9, 640, 0, 2013), (10, 21, 67, 0, 1212), (10, 31, 64, 0, 1199), (10, 46, 516, 0, 4168), (11, 12, 320, 0, 1157), (11, 21, 256, 0, 1235), (11, 28, 704, 0, 2061), (11, 34, 705, 0, 2062), (11, 38, 706, 0, 2063), (11, 47, 707, 0, 2064), (11, 56, 708, 0, 2065), (11, 65, 709, 0, 2066), (11, 73, 67, 0, 1211), (11, 101, 68, 0, 1216), (11, 113, 130, 0, 1090), (11, 118, 131, 0, 1092), (11, 127, 450, 0, 1112), (11, 132, 458, 0, 1132), (11, 143, 452, 0, 1119), (11, 146, 324, 0, 1166), (11, 149, 453, 0, 1121), (11, 179, 517, 0, 4170), (11, 184, 512, 0, 4151), (11, 187, 519, 0, 4174), (11, 190, 518, 0, 4172), (11, 193, 522, 0, 4180), (11, 204, 520, 0, 4176), (11, 218, 523, 0, 4185), (11, 225, 581, 0, 3008), (11, 230, 577, 0, 2238), (11, 234, 578, 0, 3001), (11, 237, 580, 0, 3006), (11, 244, 457, 0, 1130), (11, 247, 456, 0, 1127), (11, 279, 448, 0, 1109), (11, 280, 257, 0, 1238), (11, 288, 524, 0, 4189), (11, 316, 322, 0, 1164), (11, 319, 576, 0, 2235), (11, 323, 128, 0, 1083), (11, 324, 579, 0, 3003), (11, 335, 451, 0, 1118), (11, 338, 325, 0, 1169), (11, 361, 321, 0, 1161), (11, 391, 514, 0, 4159), (11, 400, 454, 0, 1124), (13, 7, 832, 0, 1062), (14, 9, 833, 0, 1060), (14, 48, 834, 0, 1061), (14, 63, 832, 1, 1063)]
def sSamePos : Nat := 1064
def sNKt : List (Nat × Nat × Nat × Nat) := [(4, 17, 13, 1191), (4, 9, 1, 1189), (4, 27, 8, 3129), (5, 23, 13, 1046), (5, 9, 2, 1042), (5, 17, 7, 1044), (5, 38, 9, 2227), (6, 9, 13, 2023), (11, 7, 5, 1036), (11, 10, 4, 1183), (11, 19, 10, 2007), (11, 42, 6, 2017), (11, 51, 0, 2038), (11, 60, 3, 2051), (18, 11, 11, 1028)]
def sCKt : List (Nat × Nat × Nat × Nat) := [(4, 27, 8, 3129), (5, 38, 9, 2227), (6, 32, 8, 3207), (11, 180, 8, 5021), (11, 226, 9, 5097)]
def sAKt : List (Nat × Nat × Nat × Nat) := [(4, 9, 24, 1189), (5, 9, 25, 1042), (5, 17, 26, 1044), (14, 7, 27, 3082)]
def sKTt : List (Nat × Nat × Int32 × Nat) := [(6, 30, (1000000), 3162), (11, 125, (-1000000), 4042), (11, 126, (1000000), 4043), (11, 135, (100000000), 4063), (16, 200, (2147483639), 3044), (18, 7, (2147483647), 4111), (18, 8, (104729), 4112), (18, 9, (65521), 4113), (18, 53, (1048576), 5003), (18, 205, (50000), 6060)]
def sLy0 : List Nat := [2046, 2048]
def sLy1 : List Nat := [1219, 1221, 1223, 1225, 1227, 1229, 1231]
def sLy2 : List Nat := [1093, 1095, 1097, 1099]
def sLy3 : List Nat := [2058]
def sLy4 : List Nat := [2000, 2002, 2004]
def sLy5 : List Nat := [1170, 1172, 1174, 1176, 1178, 1180]
def sLy6 : List Nat := [2029, 2031, 2033, 2035]
def sLy7 : List Nat := [1133, 1135, 1137, 1139, 1141, 1143, 1145, 1147, 1149, 1151, 1153]
def sLy8 : List Nat := [4198, 4200, 4202, 4204, 4206, 4208, 4210, 4212, 4214, 4216, 4218, 4220, 4222, 4224, 4226, 4228, 4230, 4232]
def sLy9 : List Nat := [3009, 3011, 3013, 3015, 3017, 3019]
def sLy10 : List Nat := [2014]
def sLy11 : List Nat := [2067, 2069, 2071, 2073, 2075, 2077]
def sLy12 : List Nat := [2014]
def sLy13 : List Nat := [1069, 1065, 1067]
def sIPt : List (Nat × Nat × Nat) := [(2039, 1012, 6071), (1193, 1009, 6064), (1072, 1006, 6062), (2052, 1013, 6072), (1184, 1008, 6068), (1037, 1002, 6066), (2018, 1011, 6070), (1103, 1007, 6063), (4145, 1027, 6077), (2228, 1023, 6076), (2008, 1010, 6069), (1029, 1001, 6065), (2008, 1010, 6069), (1047, 1005, 6067)]
def sArP : List (Nat × Nat) := [(20, 1102), (21, 1102)]
def sAoP : List (Nat × Nat) := [(24, 1190), (25, 1043), (26, 1045), (27, 3075)]
def sOIt : List (Nat × Nat × Nat) := [(0, 3, 2043), (1, 3, 1197), (2, 3, 1076), (3, 1, 2056), (4, 3, 1188), (5, 3, 1041), (6, 3, 2022), (7, 3, 1107), (8, 3, 4149), (9, 1, 2232), (10, 3, 2012), (11, 1, 1033), (12, 1, 1057)]
def sOIp : Nat × Nat := (1034, 1035)
def sGSt : List (Nat × Nat × Nat × Nat × Nat × Nat) := [(14, 39, 27, 0, 0, 1058), (10, 34, 28, 0, 1, 3176)]
def sMLt0 : List (Nat × Nat × Nat × Nat) := [(0, 19, 8, 2191), (0, 35, 9, 2195), (0, 44, 3, 2199), (0, 58, 2, 2212), (0, 66, 72, 2202), (0, 73, 1, 2187), (0, 77, 5, 2215), (0, 81, 6, 3099), (0, 85, 36, 3107), (0, 101, 47, 2219), (0, 107, 34, 3087), (0, 111, 75, 3102), (3, 29, 16, 5191), (3, 36, 50, 5195), (3, 40, 49, 5196), (3, 48, 69, 5201), (3, 58, 18, 5203), (3, 70, 45, 5207), (3, 74, 20, 5212), (3, 78, 21, 5216), (3, 85, 22, 5219), (3, 108, 24, 5233), (3, 114, 25, 6000), (4, 19, 247, 1192), (4, 24, 7, 1194), (4, 29, 250, 3111), (4, 33, 70, 4146), (4, 36, 254, 4235), (4, 50, 75, 4015), (4, 57, 10, 4016), (4, 68, 28, 4011), (4, 71, 11, 3095), (4, 74, 252, 3115), (4, 82, 71, 3142), (4, 86, 30, 3146), (4, 97, 33, 3091), (4, 101, 34, 4010), (4, 107, 73, 3130), (4, 117, 74, 6046), (4, 121, 40, 4072)]
def sMLt1 : List (Nat × Nat × Nat × Nat) := [(4, 129, 41, 4075), (5, 25, 247, 1048), (5, 34, 12, 1073), (5, 37, 68, 1104), (5, 40, 76, 2229), (5, 43, 254, 3022), (5, 47, 77, 3083), (5, 50, 45, 2223), (5, 66, 250, 5086), (5, 70, 252, 5087), (5, 96, 69, 4082), (5, 103, 43, 4086), (6, 11, 247, 2024), (6, 42, 250, 3163), (6, 54, 82, 3164), (6, 60, 81, 3184), (6, 64, 72, 3185), (6, 68, 57, 3186), (6, 76, 59, 3202), (6, 80, 60, 3209), (6, 84, 62, 3217), (6, 88, 63, 3226), (6, 92, 64, 3230), (6, 95, 67, 4020), (6, 98, 255, 3190), (6, 106, 9, 3194), (6, 110, 58, 3195), (6, 114, 80, 3200), (6, 118, 79, 3201), (6, 122, 254, 3199), (6, 133, 252, 3206), (6, 137, 30, 3208), (6, 149, 61, 3213), (6, 159, 13, 3221), (6, 175, 65, 3234), (6, 179, 36, 4003), (6, 186, 47, 4004), (6, 190, 33, 4005), (6, 193, 35, 4006), (6, 205, 66, 3239)]
def sMLt2 : List (Nat × Nat × Nat × Nat) := [(6, 208, 8, 4024), (6, 212, 46, 4025), (10, 27, 9, 3183), (10, 38, 80, 3172), (10, 42, 79, 3178), (10, 51, 81, 3168), (11, 9, 42, 1038), (11, 16, 26, 1185), (11, 25, 78, 2009), (11, 44, 55, 2019), (11, 53, 0, 2040), (11, 62, 14, 2053), (11, 69, 133, 2084), (11, 79, 129, 2156), (11, 83, 52, 2179), (11, 86, 4, 2183), (11, 90, 141, 3134), (11, 93, 37, 3150), (11, 97, 140, 3154), (11, 105, 132, 5077), (11, 109, 127, 4044), (11, 121, 131, 4037), (11, 136, 137, 4064), (11, 140, 49, 4091), (11, 152, 126, 5125), (11, 156, 43, 5129), (11, 160, 44, 5130), (11, 163, 128, 4128), (11, 167, 130, 4132), (11, 171, 138, 4136), (11, 175, 27, 4141), (11, 196, 139, 5036), (11, 200, 32, 3138), (11, 207, 134, 5015), (11, 211, 71, 5060), (11, 215, 30, 5061), (11, 221, 135, 5092), (11, 240, 77, 5105), (11, 250, 53, 5153), (11, 254, 50, 5168)]
def sMLt3 : List (Nat × Nat × Nat × Nat) := [(11, 258, 31, 5183), (11, 262, 15, 5187), (11, 266, 17, 5197), (11, 270, 19, 5208), (11, 273, 54, 5223), (11, 276, 23, 5227), (11, 284, 250, 4103), (11, 291, 9, 6034), (11, 295, 136, 6035), (11, 299, 38, 6042), (11, 303, 82, 6021), (11, 307, 81, 6026), (11, 311, 1, 5044), (11, 327, 69, 6016), (11, 331, 48, 5082), (11, 353, 8, 4131), (11, 373, 252, 5020), (11, 379, 39, 4068), (11, 383, 51, 4078), (11, 387, 40, 4140), (11, 395, 56, 3158), (11, 398, 29, 4029), (13, 1, 245, 1054), (14, 1, 246, 1051), (14, 73, 257, 3038), (14, 69, 248, 3034), (14, 118, 256, 3119), (14, 123, 251, 3125), (14, 129, 249, 3030), (14, 131, 253, 3026), (15, 105, 258, 3122), (18, 10, 86, 2175), (18, 18, 94, 4124), (18, 22, 95, 5007), (18, 26, 96, 5025), (18, 29, 97, 5032), (18, 33, 98, 5056), (18, 36, 99, 5101), (18, 39, 101, 5179), (18, 42, 89, 4033)]
def sMLt4 : List (Nat × Nat × Nat × Nat) := [(18, 46, 100, 5149), (18, 49, 103, 4239), (18, 54, 271, 4117), (18, 59, 261, 4120), (18, 63, 270, 4236), (18, 67, 262, 5004), (18, 71, 104, 5011), (18, 74, 263, 5022), (18, 77, 264, 5029), (18, 81, 102, 4095), (18, 84, 111, 5040), (18, 87, 260, 5045), (18, 91, 114, 4099), (18, 94, 84, 2080), (18, 97, 85, 5048), (18, 100, 273, 5052), (18, 104, 105, 5062), (18, 107, 265, 5066), (18, 110, 106, 5069), (18, 113, 117, 5073), (18, 116, 115, 5088), (18, 119, 266, 5098), (18, 122, 268, 5106), (18, 126, 87, 5109), (18, 130, 88, 5113), (18, 134, 113, 5117), (18, 137, 93, 5121), (18, 141, 92, 5134), (18, 144, 123, 4104), (18, 148, 90, 5138), (18, 151, 91, 5142), (18, 154, 269, 5146), (18, 157, 274, 5157), (18, 161, 109, 6017), (18, 165, 110, 6022), (18, 170, 119, 5160), (18, 173, 120, 5164), (18, 176, 125, 5172), (18, 179, 267, 5176), (18, 182, 118, 6004)]
def sMLt5 : List (Nat × Nat × Nat × Nat) := [(18, 185, 122, 6008), (18, 188, 116, 6012), (18, 191, 107, 6030), (18, 194, 108, 6038), (18, 197, 121, 6050), (18, 200, 83, 1030), (18, 201, 259, 4108), (18, 206, 272, 4114), (18, 210, 277, 6057), (18, 214, 275, 6027), (18, 218, 276, 6054)]
def sMLt : List (Nat × Nat × Nat × Nat) := sMLt0 ++ (sMLt1 ++ (sMLt2 ++ (sMLt3 ++ (sMLt4 ++ (sMLt5)))))
def sCEt0 : List (Nat × Nat × Nat × Nat × Nat) := [(8, 1, 0, 2192, 2193), (9, 1, 1, 2196, 2197), (3, 0, 3, 2200, 0), (2, 0, 3, 2213, 0), (72, 1, 1, 2203, 2204), (1, 1, 1, 2188, 2189), (5, 1, 3, 2217, 2), (6, 0, 1, 3100, 0), (36, 1, 2, 3108, 3109), (47, 1, 5, 2220, 2221), (34, 1, 2, 3088, 3089), (75, 1, 0, 3103, 3104), (16, 1, 2, 5193, 27), (50, 1, 2, 5169, 5170), (49, 1, 1, 4092, 4093), (69, 1, 1, 4083, 4084), (18, 1, 4, 5205, 28), (45, 1, 5, 2224, 2225), (20, 1, 2, 5214, 29), (21, 0, 3, 5217, 0), (22, 1, 3, 5221, 30), (24, 1, 1, 5235, 31), (25, 1, 1, 6002, 32), (247, 2, 0, 1049, 0), (7, 2, 3, 1195, 0), (250, 1, 0, 3112, 3113), (70, 2, 6, 4147, 0), (254, 1, 1, 3023, 3024), (10, 1, 1, 4017, 4018), (28, 1, 1, 4012, 4013), (11, 1, 1, 3096, 3097), (252, 1, 1, 3116, 3117), (71, 1, 0, 3143, 3144), (30, 1, 1, 3147, 3148), (33, 1, 2, 3092, 3093), (73, 1, 1, 3131, 3132), (74, 1, 1, 6047, 6048), (40, 0, 4, 4073, 0), (41, 0, 4, 4076, 0), (12, 2, 1, 1074, 0)]
def sCEt1 : List (Nat × Nat × Nat × Nat × Nat) := [(68, 2, 1, 1105, 0), (76, 2, 5, 2230, 0), (77, 1, 1, 3084, 3085), (43, 1, 2, 4087, 4088), (82, 1, 2, 3165, 3166), (81, 1, 3, 3169, 3170), (57, 1, 2, 3188, 8), (59, 1, 1, 3204, 10), (60, 1, 3, 3211, 11), (62, 1, 0, 3219, 13), (63, 1, 2, 3228, 14), (64, 1, 2, 3232, 15), (67, 1, 2, 4022, 18), (255, 1, 0, 3191, 3192), (58, 1, 1, 3197, 9), (80, 1, 3, 3173, 3174), (79, 1, 2, 3179, 3180), (61, 1, 2, 3215, 12), (13, 1, 1, 3222, 3223), (65, 1, 1, 3236, 16), (35, 1, 2, 4007, 4008), (66, 1, 1, 4001, 17), (46, 1, 5, 4026, 4027), (42, 2, 0, 1039, 0), (26, 2, 1, 1186, 0), (78, 2, 1, 2010, 0), (55, 2, 3, 2020, 0), (0, 2, 2, 2041, 0), (14, 2, 1, 2054, 0), (133, 1, 1, 2086, 0), (129, 0, 1, 2157, 0), (52, 1, 0, 2180, 2181), (4, 1, 1, 2184, 2185), (141, 1, 0, 3136, 6), (37, 1, 0, 3151, 3152), (140, 1, 1, 3156, 7), (132, 1, 1, 5079, 25), (127, 0, 3, 4045, 0), (131, 1, 1, 4039, 19), (137, 1, 1, 4066, 20)]
def sCEt2 : List (Nat × Nat × Nat × Nat × Nat) := [(126, 0, 2, 5126, 0), (44, 1, 3, 5131, 5132), (128, 0, 2, 4129, 0), (130, 1, 2, 4134, 21), (138, 1, 4, 4138, 22), (27, 1, 5, 4142, 4143), (139, 1, 3, 5038, 24), (32, 1, 2, 3139, 3140), (134, 1, 1, 5017, 23), (135, 1, 1, 5094, 26), (53, 1, 0, 5154, 5155), (31, 1, 1, 5184, 5185), (15, 1, 1, 5188, 5189), (17, 1, 2, 5198, 5199), (19, 1, 1, 5209, 5210), (54, 1, 0, 5224, 5225), (23, 1, 1, 5228, 5229), (136, 0, 1, 6036, 0), (38, 1, 2, 6043, 6044), (48, 1, 2, 5083, 5084), (39, 1, 2, 4069, 4070), (51, 1, 2, 4079, 4080), (56, 1, 1, 3159, 3160), (29, 1, 1, 4030, 4031), (245, 2, 0, 1055, 0), (246, 2, 0, 1052, 0), (257, 0, 3, 3039, 0), (248, 1, 1, 3036, 5), (256, 0, 2, 3120, 0), (251, 1, 1, 3126, 3127), (249, 1, 0, 3032, 4), (253, 1, 3, 3028, 3), (258, 0, 3, 3123, 0), (86, 1, 1, 2176, 2177), (94, 1, 6, 4125, 4126), (95, 1, 5, 5008, 5009), (96, 1, 6, 5026, 5027), (97, 1, 5, 5033, 5034), (98, 1, 1, 5057, 5058), (99, 1, 1, 5102, 5103)]
def sCEt3 : List (Nat × Nat × Nat × Nat × Nat) := [(101, 1, 1, 5180, 5181), (89, 1, 2, 4034, 4035), (100, 1, 2, 5150, 5151), (103, 1, 0, 5000, 5001), (271, 0, 2, 4118, 0), (261, 0, 7, 4121, 0), (270, 0, 7, 4237, 0), (262, 0, 6, 5005, 0), (104, 1, 1, 5012, 5013), (263, 0, 7, 5023, 0), (264, 0, 6, 5030, 0), (102, 1, 1, 4096, 4097), (111, 1, 1, 5041, 5042), (260, 0, 2, 5046, 0), (114, 1, 0, 4100, 4101), (84, 1, 1, 2081, 2082), (85, 1, 1, 5049, 5050), (273, 0, 1, 5053, 0), (105, 1, 1, 5063, 5064), (265, 0, 2, 5067, 0), (106, 1, 1, 5070, 5071), (117, 1, 2, 5074, 5075), (115, 1, 2, 5089, 5090), (266, 0, 2, 5099, 0), (268, 0, 3, 5107, 0), (87, 1, 2, 5110, 5111), (88, 1, 3, 5114, 5115), (113, 1, 1, 5118, 5119), (93, 1, 3, 5122, 5123), (92, 1, 2, 5135, 5136), (123, 1, 1, 4105, 4106), (90, 1, 2, 5139, 5140), (91, 1, 1, 5143, 5144), (269, 0, 3, 5147, 0), (274, 0, 3, 5158, 0), (109, 1, 2, 6018, 6019), (110, 1, 2, 6023, 6024), (119, 1, 1, 5161, 5162), (120, 1, 1, 5165, 5166), (125, 1, 0, 5173, 5174)]
def sCEt4 : List (Nat × Nat × Nat × Nat × Nat) := [(267, 0, 2, 5177, 0), (118, 1, 1, 6005, 6006), (122, 1, 1, 6009, 6010), (116, 1, 2, 6013, 6014), (107, 1, 2, 6031, 6032), (108, 1, 2, 6039, 6040), (121, 1, 1, 6051, 6052), (83, 2, 0, 1031, 0), (259, 0, 2, 4109, 0), (272, 0, 6, 4115, 0), (277, 0, 2, 6058, 0), (275, 0, 3, 6028, 0), (276, 0, 3, 6055, 0)]
def sCEt : List (Nat × Nat × Nat × Nat × Nat) := sCEt0 ++ (sCEt1 ++ (sCEt2 ++ (sCEt3 ++ (sCEt4))))
def sINt : List (Nat × Nat) := [(11, 1001), (0, 1012), (1, 1009), (2, 1006), (3, 1013), (4, 1008), (5, 1002), (6, 1011), (7, 1007), (8, 1027), (9, 1023), (10, 1010), (18, 1000), (12, 1003), (13, 1004), (14, 1005), (15, 1020), (16, 1024), (17, 1021)]
def sMWt : List (Nat × Nat × Nat × Nat × Nat × Nat) := [(0, 48, 7, 2206, 2207, 2208), (0, 54, 5, 2209, 2210, 2211), (2, 24, 5, 3225, 2210, 2211), (3, 52, 5, 5202, 2210, 2211), (3, 89, 6, 5231, 3042, 3043), (3, 96, 7, 5232, 2207, 2208), (3, 111, 8, 5237, 5238, 5239), (5, 107, 6, 4090, 3042, 3043), (6, 199, 7, 3238, 2207, 2208), (8, 45, 7, 3106, 2207, 2208), (10, 15, 5, 3182, 2210, 2211), (14, 79, 6, 3081, 3042, 3043), (16, 194, 6, 3041, 3042, 3043)]
def sMi0 : Nat := 1022
/-- a word at its place -/
def sTk (k : Nat) : List Cond := match k with
  | 0 => k2_sels lw_privs
  | 1 => tables_1_1
  | 2 => tables_1_2
  | 3 => tables_1_3
  | 4 => tables_1_4
  | 5 => tables_1_5
  | 6 => tables_1_6
  | _ => []
theorem sTk_in {k : Nat} {w : Cond} (h : w ∈ sTk k) : w ∈ lw_tbl := by
  unfold lw_tbl tables_1
  simp only [List.mem_append]
  unfold sTk at h
  split at h
  · exact Or.inl h
  · exact Or.inr (Or.inl h)
  · exact Or.inr (Or.inr (Or.inl h))
  · exact Or.inr (Or.inr (Or.inr (Or.inl h)))
  · exact Or.inr (Or.inr (Or.inr (Or.inr (Or.inl h))))
  · exact Or.inr (Or.inr (Or.inr (Or.inr (Or.inr (Or.inl h)))))
  · exact Or.inr (Or.inr (Or.inr (Or.inr (Or.inr (Or.inr h)))))
  · cases h
def sWg (p : Nat) (w : Cond) : Bool := decide ((sTk (p / 1000))[p % 1000]? = some w) && goodWord w
def sWx (p : Nat) (w : Cond) : Bool := decide ((sTk (p / 1000))[p % 1000]? = some w) && sWm w
theorem sWg_in {p : Nat} {w : Cond} (h : sWg p w = true) : w ∈ sGG := by
  unfold sWg at h
  rw [Bool.and_eq_true, decide_eq_true_eq] at h
  exact List.mem_filter.mpr ⟨sTk_in (List.mem_of_getElem? h.1), h.2⟩
theorem sWx_in {p : Nat} {w : Cond} (h : sWx p w = true) : w ∈ sGW := by
  unfold sWx at h
  rw [Bool.and_eq_true, decide_eq_true_eq] at h
  exact List.mem_filter.mpr ⟨sTk_in (List.mem_of_getElem? h.1), h.2⟩
def sFLc (e : Nat × Nat × Nat × Nat × Nat) : Bool := match sCl[e.2.2.1 / 64]? with
  | some q => Nat.blt (e.2.2.1 / 64) 14 && Nat.blt (e.2.2.1 % 64) q.2.2 && sWx e.2.2.2.2 (Cond.fieldLink (sOn e.1) e.2.1 (bif Nat.beq e.2.2.2.1 0 then (q.2.1 (e.2.2.1 % 64)).1 else "java/util/ArrayList") (q.2.1 (e.2.2.1 % 64)).2.1 (q.2.1 (e.2.2.1 % 64)).2.2.1) &&
    (Nat.beq e.2.2.2.1 0 || sWx sSamePos (Cond.sameField "java/util/ArrayList" (q.2.1 (e.2.2.1 % 64)).1 (q.2.1 (e.2.2.1 % 64)).2.1 (q.2.1 (e.2.2.1 % 64)).2.2.1))
  | none => false
theorem sFLt_ok : sFLt.all sFLc = true := by decide +kernel
noncomputable def sMLc (e : Nat × Nat × Nat × Nat) : Bool := sWg e.2.2.2 (Cond.methodLink (sOn e.1) e.2.1 (sY e.2.2.1))
noncomputable def sCEc (e : Nat × Nat × Nat × Nat × Nat) : Bool := decide ((parseMethodDescriptor (sY e.1).desc).map (fun d => d.parameters.length) = some e.2.2.1) &&
  (match e.2.1 with
    | 0 => sWg e.2.2.2.1 (Cond.static (sY e.1))
    | 1 => sWg e.2.2.2.1 (Cond.instanceMethod (sY e.1)) && sWg e.2.2.2.2 (Cond.selects (sY e.1).cls (sY e.1) (sY e.1)) && Nat.blt (sRk e.1) 14 && decide ((sHh e.1) = []) && (match sCl[sRk e.1]? with
      | some q => decide (q.1 = (sY e.1).cls)
      | none => false)
    | _ => sWg e.2.2.2.1 (Cond.instanceMethod (sY e.1)) && decide ((sY e.1).name = "<init>") && decide (sRt e.1 = none) && decide ((sHh e.1) = []))
def sINc (e : Nat × Nat) : Bool := sWg e.2 (Cond.initialized (sOn e.1)) && plainName (sOn e.1) && decide (sOn e.1 ≠ "java/lang/invoke/MethodHandle" ∧ sOn e.1 ≠ "java/lang/invoke/VarHandle")
theorem sINt_ok : sINt.all sINc = true := by decide +kernel
theorem sMLt0_ok : sMLt0.all sMLc = true := by decide +kernel
theorem sMLt1_ok : sMLt1.all sMLc = true := by decide +kernel
theorem sMLt2_ok : sMLt2.all sMLc = true := by decide +kernel
theorem sMLt3_ok : sMLt3.all sMLc = true := by decide +kernel
theorem sMLt4_ok : sMLt4.all sMLc = true := by decide +kernel
theorem sMLt5_ok : sMLt5.all sMLc = true := by decide +kernel
theorem sMLt_ok : sMLt.all sMLc = true := by
  unfold sMLt
  simp only [List.all_append, sMLt0_ok, sMLt1_ok, sMLt2_ok, sMLt3_ok, sMLt4_ok, sMLt5_ok, Bool.and_self]
theorem sCEt0_ok : sCEt0.all sCEc = true := by decide +kernel
theorem sCEt1_ok : sCEt1.all sCEc = true := by decide +kernel
theorem sCEt2_ok : sCEt2.all sCEc = true := by decide +kernel
theorem sCEt3_ok : sCEt3.all sCEc = true := by decide +kernel
theorem sCEt4_ok : sCEt4.all sCEc = true := by decide +kernel
theorem sCEt_ok : sCEt.all sCEc = true := by
  unfold sCEt
  simp only [List.all_append, sCEt0_ok, sCEt1_ok, sCEt2_ok, sCEt3_ok, sCEt4_ok, Bool.and_self]
set_option maxRecDepth 10000 in
theorem sCw8_at : (sTk 2)[194]? = some (sCw 8) := rfl
set_option maxRecDepth 10000 in
theorem sCw9_at : (sTk 2)[198]? = some (sCw 9) := rfl
set_option maxRecDepth 10000 in
theorem sCw3_at : (sTk 2)[201]? = some (sCw 3) := rfl
set_option maxRecDepth 10000 in
theorem sCw2_at : (sTk 2)[214]? = some (sCw 2) := rfl
set_option maxRecDepth 10000 in
theorem sCw72_at : (sTk 2)[205]? = some (sCw 72) := rfl
set_option maxRecDepth 10000 in
theorem sCw1_at : (sTk 2)[190]? = some (sCw 1) := rfl
set_option maxRecDepth 10000 in
theorem sCw5_at : (sTk 2)[218]? = some (sCw 5) := rfl
set_option maxRecDepth 10000 in
theorem sCw6_at : (sTk 3)[101]? = some (sCw 6) := rfl
set_option maxRecDepth 10000 in
theorem sCw36_at : (sTk 3)[110]? = some (sCw 36) := rfl
set_option maxRecDepth 10000 in
theorem sCw47_at : (sTk 2)[222]? = some (sCw 47) := rfl
set_option maxRecDepth 10000 in
theorem sCw34_at : (sTk 3)[90]? = some (sCw 34) := rfl
set_option maxRecDepth 10000 in
theorem sCw75_at : (sTk 3)[105]? = some (sCw 75) := rfl
set_option maxRecDepth 10000 in
theorem sCw16_at : (sTk 5)[194]? = some (sCw 16) := rfl
set_option maxRecDepth 10000 in
theorem sCw50_at : (sTk 5)[171]? = some (sCw 50) := rfl
set_option maxRecDepth 10000 in
theorem sCw49_at : (sTk 4)[94]? = some (sCw 49) := rfl
set_option maxRecDepth 10000 in
theorem sCw69_at : (sTk 4)[85]? = some (sCw 69) := rfl
set_option maxRecDepth 10000 in
theorem sCw18_at : (sTk 5)[206]? = some (sCw 18) := rfl
set_option maxRecDepth 10000 in
theorem sCw45_at : (sTk 2)[226]? = some (sCw 45) := rfl
set_option maxRecDepth 10000 in
theorem sCw20_at : (sTk 5)[215]? = some (sCw 20) := rfl
set_option maxRecDepth 10000 in
theorem sCw21_at : (sTk 5)[218]? = some (sCw 21) := rfl
set_option maxRecDepth 10000 in
theorem sCw22_at : (sTk 5)[222]? = some (sCw 22) := rfl
set_option maxRecDepth 10000 in
theorem sCw24_at : (sTk 5)[236]? = some (sCw 24) := rfl
set_option maxRecDepth 10000 in
theorem sCw25_at : (sTk 6)[3]? = some (sCw 25) := rfl
set_option maxRecDepth 10000 in
theorem sCw247_at : (sTk 1)[50]? = some (sCw 247) := rfl
set_option maxRecDepth 10000 in
theorem sCw7_at : (sTk 1)[196]? = some (sCw 7) := rfl
set_option maxRecDepth 10000 in
theorem sCw250_at : (sTk 3)[114]? = some (sCw 250) := rfl
set_option maxRecDepth 10000 in
theorem sCw70_at : (sTk 4)[148]? = some (sCw 70) := rfl
set_option maxRecDepth 10000 in
theorem sCw254_at : (sTk 3)[25]? = some (sCw 254) := rfl
set_option maxRecDepth 10000 in
theorem sCw10_at : (sTk 4)[19]? = some (sCw 10) := rfl
set_option maxRecDepth 10000 in
theorem sCw28_at : (sTk 4)[14]? = some (sCw 28) := rfl
set_option maxRecDepth 10000 in
theorem sCw11_at : (sTk 3)[98]? = some (sCw 11) := rfl
set_option maxRecDepth 10000 in
theorem sCw252_at : (sTk 3)[118]? = some (sCw 252) := rfl
set_option maxRecDepth 10000 in
theorem sCw71_at : (sTk 3)[145]? = some (sCw 71) := rfl
set_option maxRecDepth 10000 in
theorem sCw30_at : (sTk 3)[149]? = some (sCw 30) := rfl
set_option maxRecDepth 10000 in
theorem sCw33_at : (sTk 3)[94]? = some (sCw 33) := rfl
set_option maxRecDepth 10000 in
theorem sCw73_at : (sTk 3)[133]? = some (sCw 73) := rfl
set_option maxRecDepth 10000 in
theorem sCw74_at : (sTk 6)[49]? = some (sCw 74) := rfl
set_option maxRecDepth 10000 in
theorem sCw40_at : (sTk 4)[74]? = some (sCw 40) := rfl
set_option maxRecDepth 10000 in
theorem sCw41_at : (sTk 4)[77]? = some (sCw 41) := rfl
set_option maxRecDepth 10000 in
theorem sCw12_at : (sTk 1)[75]? = some (sCw 12) := rfl
set_option maxRecDepth 10000 in
theorem sCw68_at : (sTk 1)[106]? = some (sCw 68) := rfl
set_option maxRecDepth 10000 in
theorem sCw76_at : (sTk 2)[231]? = some (sCw 76) := rfl
set_option maxRecDepth 10000 in
theorem sCw77_at : (sTk 3)[86]? = some (sCw 77) := rfl
set_option maxRecDepth 10000 in
theorem sCw43_at : (sTk 4)[89]? = some (sCw 43) := rfl
set_option maxRecDepth 10000 in
theorem sCw82_at : (sTk 3)[167]? = some (sCw 82) := rfl
set_option maxRecDepth 10000 in
theorem sCw81_at : (sTk 3)[171]? = some (sCw 81) := rfl
set_option maxRecDepth 10000 in
theorem sCw57_at : (sTk 3)[189]? = some (sCw 57) := rfl
set_option maxRecDepth 10000 in
theorem sCw59_at : (sTk 3)[205]? = some (sCw 59) := rfl
set_option maxRecDepth 10000 in
theorem sCw60_at : (sTk 3)[212]? = some (sCw 60) := rfl
set_option maxRecDepth 10000 in
theorem sCw62_at : (sTk 3)[220]? = some (sCw 62) := rfl
set_option maxRecDepth 10000 in
theorem sCw63_at : (sTk 3)[229]? = some (sCw 63) := rfl
set_option maxRecDepth 10000 in
theorem sCw64_at : (sTk 3)[233]? = some (sCw 64) := rfl
set_option maxRecDepth 10000 in
theorem sCw67_at : (sTk 4)[23]? = some (sCw 67) := rfl
set_option maxRecDepth 10000 in
theorem sCw255_at : (sTk 3)[193]? = some (sCw 255) := rfl
set_option maxRecDepth 10000 in
theorem sCw58_at : (sTk 3)[198]? = some (sCw 58) := rfl
set_option maxRecDepth 10000 in
theorem sCw80_at : (sTk 3)[175]? = some (sCw 80) := rfl
set_option maxRecDepth 10000 in
theorem sCw79_at : (sTk 3)[181]? = some (sCw 79) := rfl
set_option maxRecDepth 10000 in
theorem sCw61_at : (sTk 3)[216]? = some (sCw 61) := rfl
set_option maxRecDepth 10000 in
theorem sCw13_at : (sTk 3)[224]? = some (sCw 13) := rfl
set_option maxRecDepth 10000 in
theorem sCw65_at : (sTk 3)[237]? = some (sCw 65) := rfl
set_option maxRecDepth 10000 in
theorem sCw35_at : (sTk 4)[9]? = some (sCw 35) := rfl
set_option maxRecDepth 10000 in
theorem sCw66_at : (sTk 4)[2]? = some (sCw 66) := rfl
set_option maxRecDepth 10000 in
theorem sCw46_at : (sTk 4)[28]? = some (sCw 46) := rfl
set_option maxRecDepth 10000 in
theorem sCw42_at : (sTk 1)[40]? = some (sCw 42) := rfl
set_option maxRecDepth 10000 in
theorem sCw26_at : (sTk 1)[187]? = some (sCw 26) := rfl
set_option maxRecDepth 10000 in
theorem sCw78_at : (sTk 2)[11]? = some (sCw 78) := rfl
set_option maxRecDepth 10000 in
theorem sCw55_at : (sTk 2)[21]? = some (sCw 55) := rfl
set_option maxRecDepth 10000 in
theorem sCw0_at : (sTk 2)[42]? = some (sCw 0) := rfl
set_option maxRecDepth 10000 in
theorem sCw14_at : (sTk 2)[55]? = some (sCw 14) := rfl
set_option maxRecDepth 10000 in
theorem sCw133_at : (sTk 2)[87]? = some (sCw 133) := rfl
set_option maxRecDepth 10000 in
theorem sCw129_at : (sTk 2)[158]? = some (sCw 129) := rfl
set_option maxRecDepth 10000 in
theorem sCw52_at : (sTk 2)[182]? = some (sCw 52) := rfl
set_option maxRecDepth 10000 in
theorem sCw4_at : (sTk 2)[186]? = some (sCw 4) := rfl
set_option maxRecDepth 10000 in
theorem sCw141_at : (sTk 3)[137]? = some (sCw 141) := rfl
set_option maxRecDepth 10000 in
theorem sCw37_at : (sTk 3)[153]? = some (sCw 37) := rfl
set_option maxRecDepth 10000 in
theorem sCw140_at : (sTk 3)[157]? = some (sCw 140) := rfl
set_option maxRecDepth 10000 in
theorem sCw132_at : (sTk 5)[80]? = some (sCw 132) := rfl
set_option maxRecDepth 10000 in
theorem sCw127_at : (sTk 4)[46]? = some (sCw 127) := rfl
set_option maxRecDepth 10000 in
theorem sCw131_at : (sTk 4)[40]? = some (sCw 131) := rfl
set_option maxRecDepth 10000 in
theorem sCw137_at : (sTk 4)[67]? = some (sCw 137) := rfl
set_option maxRecDepth 10000 in
theorem sCw126_at : (sTk 5)[127]? = some (sCw 126) := rfl
set_option maxRecDepth 10000 in
theorem sCw44_at : (sTk 5)[133]? = some (sCw 44) := rfl
set_option maxRecDepth 10000 in
theorem sCw128_at : (sTk 4)[130]? = some (sCw 128) := rfl
set_option maxRecDepth 10000 in
theorem sCw130_at : (sTk 4)[135]? = some (sCw 130) := rfl
set_option maxRecDepth 10000 in
theorem sCw138_at : (sTk 4)[139]? = some (sCw 138) := rfl
set_option maxRecDepth 10000 in
theorem sCw27_at : (sTk 4)[144]? = some (sCw 27) := rfl
set_option maxRecDepth 10000 in
theorem sCw139_at : (sTk 5)[39]? = some (sCw 139) := rfl
set_option maxRecDepth 10000 in
theorem sCw32_at : (sTk 3)[141]? = some (sCw 32) := rfl
set_option maxRecDepth 10000 in
theorem sCw134_at : (sTk 5)[18]? = some (sCw 134) := rfl
set_option maxRecDepth 10000 in
theorem sCw135_at : (sTk 5)[95]? = some (sCw 135) := rfl
set_option maxRecDepth 10000 in
theorem sCw53_at : (sTk 5)[156]? = some (sCw 53) := rfl
set_option maxRecDepth 10000 in
theorem sCw31_at : (sTk 5)[186]? = some (sCw 31) := rfl
set_option maxRecDepth 10000 in
theorem sCw15_at : (sTk 5)[190]? = some (sCw 15) := rfl
set_option maxRecDepth 10000 in
theorem sCw17_at : (sTk 5)[200]? = some (sCw 17) := rfl
set_option maxRecDepth 10000 in
theorem sCw19_at : (sTk 5)[211]? = some (sCw 19) := rfl
set_option maxRecDepth 10000 in
theorem sCw54_at : (sTk 5)[226]? = some (sCw 54) := rfl
set_option maxRecDepth 10000 in
theorem sCw23_at : (sTk 5)[230]? = some (sCw 23) := rfl
set_option maxRecDepth 10000 in
theorem sCw136_at : (sTk 6)[37]? = some (sCw 136) := rfl
set_option maxRecDepth 10000 in
theorem sCw38_at : (sTk 6)[45]? = some (sCw 38) := rfl
set_option maxRecDepth 10000 in
theorem sCw48_at : (sTk 5)[85]? = some (sCw 48) := rfl
set_option maxRecDepth 10000 in
theorem sCw39_at : (sTk 4)[71]? = some (sCw 39) := rfl
set_option maxRecDepth 10000 in
theorem sCw51_at : (sTk 4)[81]? = some (sCw 51) := rfl
set_option maxRecDepth 10000 in
theorem sCw56_at : (sTk 3)[161]? = some (sCw 56) := rfl
set_option maxRecDepth 10000 in
theorem sCw29_at : (sTk 4)[32]? = some (sCw 29) := rfl
set_option maxRecDepth 10000 in
theorem sCw245_at : (sTk 1)[56]? = some (sCw 245) := rfl
set_option maxRecDepth 10000 in
theorem sCw246_at : (sTk 1)[53]? = some (sCw 246) := rfl
set_option maxRecDepth 10000 in
theorem sCw257_at : (sTk 3)[40]? = some (sCw 257) := rfl
set_option maxRecDepth 10000 in
theorem sCw248_at : (sTk 3)[37]? = some (sCw 248) := rfl
set_option maxRecDepth 10000 in
theorem sCw256_at : (sTk 3)[121]? = some (sCw 256) := rfl
set_option maxRecDepth 10000 in
theorem sCw251_at : (sTk 3)[128]? = some (sCw 251) := rfl
set_option maxRecDepth 10000 in
theorem sCw249_at : (sTk 3)[33]? = some (sCw 249) := rfl
set_option maxRecDepth 10000 in
theorem sCw253_at : (sTk 3)[29]? = some (sCw 253) := rfl
set_option maxRecDepth 10000 in
theorem sCw258_at : (sTk 3)[124]? = some (sCw 258) := rfl
set_option maxRecDepth 10000 in
theorem sCw86_at : (sTk 2)[178]? = some (sCw 86) := rfl
set_option maxRecDepth 10000 in
theorem sCw94_at : (sTk 4)[127]? = some (sCw 94) := rfl
set_option maxRecDepth 10000 in
theorem sCw95_at : (sTk 5)[10]? = some (sCw 95) := rfl
set_option maxRecDepth 10000 in
theorem sCw96_at : (sTk 5)[28]? = some (sCw 96) := rfl
set_option maxRecDepth 10000 in
theorem sCw97_at : (sTk 5)[35]? = some (sCw 97) := rfl
set_option maxRecDepth 10000 in
theorem sCw98_at : (sTk 5)[59]? = some (sCw 98) := rfl
set_option maxRecDepth 10000 in
theorem sCw99_at : (sTk 5)[104]? = some (sCw 99) := rfl
set_option maxRecDepth 10000 in
theorem sCw101_at : (sTk 5)[182]? = some (sCw 101) := rfl
set_option maxRecDepth 10000 in
theorem sCw89_at : (sTk 4)[36]? = some (sCw 89) := rfl
set_option maxRecDepth 10000 in
theorem sCw100_at : (sTk 5)[152]? = some (sCw 100) := rfl
set_option maxRecDepth 10000 in
theorem sCw103_at : (sTk 5)[2]? = some (sCw 103) := rfl
set_option maxRecDepth 10000 in
theorem sCw271_at : (sTk 4)[119]? = some (sCw 271) := rfl
set_option maxRecDepth 10000 in
theorem sCw261_at : (sTk 4)[122]? = some (sCw 261) := rfl
set_option maxRecDepth 10000 in
theorem sCw270_at : (sTk 4)[238]? = some (sCw 270) := rfl
set_option maxRecDepth 10000 in
theorem sCw262_at : (sTk 5)[6]? = some (sCw 262) := rfl
set_option maxRecDepth 10000 in
theorem sCw104_at : (sTk 5)[14]? = some (sCw 104) := rfl
set_option maxRecDepth 10000 in
theorem sCw263_at : (sTk 5)[24]? = some (sCw 263) := rfl
set_option maxRecDepth 10000 in
theorem sCw264_at : (sTk 5)[31]? = some (sCw 264) := rfl
set_option maxRecDepth 10000 in
theorem sCw102_at : (sTk 4)[98]? = some (sCw 102) := rfl
set_option maxRecDepth 10000 in
theorem sCw111_at : (sTk 5)[43]? = some (sCw 111) := rfl
set_option maxRecDepth 10000 in
theorem sCw260_at : (sTk 5)[47]? = some (sCw 260) := rfl
set_option maxRecDepth 10000 in
theorem sCw114_at : (sTk 4)[102]? = some (sCw 114) := rfl
set_option maxRecDepth 10000 in
theorem sCw84_at : (sTk 2)[83]? = some (sCw 84) := rfl
set_option maxRecDepth 10000 in
theorem sCw85_at : (sTk 5)[51]? = some (sCw 85) := rfl
set_option maxRecDepth 10000 in
theorem sCw273_at : (sTk 5)[54]? = some (sCw 273) := rfl
set_option maxRecDepth 10000 in
theorem sCw105_at : (sTk 5)[65]? = some (sCw 105) := rfl
set_option maxRecDepth 10000 in
theorem sCw265_at : (sTk 5)[68]? = some (sCw 265) := rfl
set_option maxRecDepth 10000 in
theorem sCw106_at : (sTk 5)[72]? = some (sCw 106) := rfl
set_option maxRecDepth 10000 in
theorem sCw117_at : (sTk 5)[76]? = some (sCw 117) := rfl
set_option maxRecDepth 10000 in
theorem sCw115_at : (sTk 5)[91]? = some (sCw 115) := rfl
set_option maxRecDepth 10000 in
theorem sCw266_at : (sTk 5)[100]? = some (sCw 266) := rfl
set_option maxRecDepth 10000 in
theorem sCw268_at : (sTk 5)[108]? = some (sCw 268) := rfl
set_option maxRecDepth 10000 in
theorem sCw87_at : (sTk 5)[112]? = some (sCw 87) := rfl
set_option maxRecDepth 10000 in
theorem sCw88_at : (sTk 5)[116]? = some (sCw 88) := rfl
set_option maxRecDepth 10000 in
theorem sCw113_at : (sTk 5)[120]? = some (sCw 113) := rfl
set_option maxRecDepth 10000 in
theorem sCw93_at : (sTk 5)[124]? = some (sCw 93) := rfl
set_option maxRecDepth 10000 in
theorem sCw92_at : (sTk 5)[137]? = some (sCw 92) := rfl
set_option maxRecDepth 10000 in
theorem sCw123_at : (sTk 4)[107]? = some (sCw 123) := rfl
set_option maxRecDepth 10000 in
theorem sCw90_at : (sTk 5)[141]? = some (sCw 90) := rfl
set_option maxRecDepth 10000 in
theorem sCw91_at : (sTk 5)[145]? = some (sCw 91) := rfl
set_option maxRecDepth 10000 in
theorem sCw269_at : (sTk 5)[148]? = some (sCw 269) := rfl
set_option maxRecDepth 10000 in
theorem sCw274_at : (sTk 5)[159]? = some (sCw 274) := rfl
set_option maxRecDepth 10000 in
theorem sCw109_at : (sTk 6)[20]? = some (sCw 109) := rfl
set_option maxRecDepth 10000 in
theorem sCw110_at : (sTk 6)[25]? = some (sCw 110) := rfl
set_option maxRecDepth 10000 in
theorem sCw119_at : (sTk 5)[163]? = some (sCw 119) := rfl
set_option maxRecDepth 10000 in
theorem sCw120_at : (sTk 5)[167]? = some (sCw 120) := rfl
set_option maxRecDepth 10000 in
theorem sCw125_at : (sTk 5)[175]? = some (sCw 125) := rfl
set_option maxRecDepth 10000 in
theorem sCw267_at : (sTk 5)[178]? = some (sCw 267) := rfl
set_option maxRecDepth 10000 in
theorem sCw118_at : (sTk 6)[7]? = some (sCw 118) := rfl
set_option maxRecDepth 10000 in
theorem sCw122_at : (sTk 6)[11]? = some (sCw 122) := rfl
set_option maxRecDepth 10000 in
theorem sCw116_at : (sTk 6)[15]? = some (sCw 116) := rfl
set_option maxRecDepth 10000 in
theorem sCw107_at : (sTk 6)[33]? = some (sCw 107) := rfl
set_option maxRecDepth 10000 in
theorem sCw108_at : (sTk 6)[41]? = some (sCw 108) := rfl
set_option maxRecDepth 10000 in
theorem sCw121_at : (sTk 6)[53]? = some (sCw 121) := rfl
set_option maxRecDepth 10000 in
theorem sCw83_at : (sTk 1)[32]? = some (sCw 83) := rfl
set_option maxRecDepth 10000 in
theorem sCw259_at : (sTk 4)[110]? = some (sCw 259) := rfl
set_option maxRecDepth 10000 in
theorem sCw272_at : (sTk 4)[116]? = some (sCw 272) := rfl
set_option maxRecDepth 10000 in
theorem sCw277_at : (sTk 6)[59]? = some (sCw 277) := rfl
set_option maxRecDepth 10000 in
theorem sCw275_at : (sTk 6)[29]? = some (sCw 275) := rfl
set_option maxRecDepth 10000 in
theorem sCw276_at : (sTk 6)[56]? = some (sCw 276) := rfl
theorem sOw_ok : ∀ i, i < sNm → (sY i).cls = sOn (sOw i) := by decide +kernel
def sCKc (e : Nat × Nat × Nat × Nat) : Bool := match sCl[e.2.2.1]? with
  | some q => Nat.blt e.2.2.1 14 && sWx e.2.2.2 (Cond.classLink (sOn e.1) e.2.1 q.1)
  | none => false
theorem sNKt_ok : sNKt.all sCKc = true := by decide +kernel
theorem sCKt_ok : sCKt.all sCKc = true := by decide +kernel
def sAKc (e : Nat × Nat × Nat × Nat) : Bool := match sAt e.2.2.1 with
  | .object C => Nat.ble 24 e.2.2.1 && Nat.blt e.2.2.1 28 && sWx e.2.2.2 (Cond.classLink (sOn e.1) e.2.1 C) && sAoP.any (fun z => Nat.beq z.1 e.2.2.1 && sWx z.2 (Cond.arrayOver (.object C)))
  | _ => false
theorem sAKt_ok : sAKt.all sAKc = true := by decide +kernel
theorem sKTt_ok : sKTt.all (fun e => sWx e.2.2.2 (Cond.constant (sOn e.1) e.2.1 e.2.2.1)) = true := by decide +kernel
theorem sOIt_ok : sOIt.all (fun e => sWx e.2.2 (Cond.methodLink (sOn e.1) e.2.1 Lib.objectInit)) = true := by decide +kernel
theorem sOIp_ok : (sWx sOIp.1 (Cond.instanceMethod Lib.objectInit) && sWx sOIp.2 (Cond.code Lib.objectInit ⟨#[0xb1]⟩ 1 none)) = true := by decide +kernel
theorem sArP_ok : sArP.all (fun e => sWx e.2 (Cond.arrayClass (sAt e.1))) = true := by decide +kernel
def sGSc (e : Nat × Nat × Nat × Nat × Nat × Nat) : Bool := decide ((e.2.2.1 = 27 ∧ e.2.2.2.1 = 0) ∨ (e.2.2.1 = 28 ∧ e.2.2.2.1 < 2)) && (bif Nat.beq e.2.2.2.2.1 1 then sWx e.2.2.2.2.2 (Cond.fieldLinkNest (sOn e.1) e.2.1 (sS3 e.2.2.1 e.2.2.2.1).1 (sS3 e.2.2.1 e.2.2.2.1).2.1 (sS3 e.2.2.1 e.2.2.2.1).2.2 "BookExchange") else sWx e.2.2.2.2.2 (Cond.fieldLink (sOn e.1) e.2.1 (sS3 e.2.2.1 e.2.2.2.1).1 (sS3 e.2.2.1 e.2.2.2.1).2.1 (sS3 e.2.2.1 e.2.2.2.1).2.2))
theorem sGSt_ok : sGSt.all sGSc = true := by decide +kernel
def sMWc (e : Nat × Nat × Nat × Nat × Nat × Nat) : Bool := match e.2.2.1 with
  | 5 => sWx e.2.2.2.1 (Cond.methodLink (sOn e.1) e.2.1 Lib.Math.abs.name) && sWx e.2.2.2.2.1 (Cond.static Lib.Math.abs.name) && sWx e.2.2.2.2.2 (Cond.code Lib.Math.abs.name Lib.Math.abs.code 1 (some .int))
  | 6 => sWx e.2.2.2.1 (Cond.methodLink (sOn e.1) e.2.1 Lib.Math.max.name) && sWx e.2.2.2.2.1 (Cond.static Lib.Math.max.name) && sWx e.2.2.2.2.2 (Cond.code Lib.Math.max.name Lib.Math.max.code 2 (some .int))
  | 7 => sWx e.2.2.2.1 (Cond.methodLink (sOn e.1) e.2.1 Lib.Math.min.name) && sWx e.2.2.2.2.1 (Cond.static Lib.Math.min.name) && sWx e.2.2.2.2.2 (Cond.code Lib.Math.min.name Lib.Math.min.code 2 (some .int))
  | 8 => sWx e.2.2.2.1 (Cond.methodLink (sOn e.1) e.2.1 Lib.MathLoose.min_long.x) && sWx e.2.2.2.2.1 (Cond.static Lib.MathLoose.min_long.x) && sWx e.2.2.2.2.2 (Cond.code Lib.MathLoose.min_long.x Lib.MathLoose.min_long.code 4 (some .long))
  | _ => false
theorem sMWt_ok : sMWt.all sMWc = true := by decide +kernel
theorem sMi0_ok : sWx sMi0 (Cond.initialized "java/lang/Math") = true := by decide +kernel
