def sOn (k : Nat) : String := bif Nat.ble 10 k then (bif Nat.ble 15 k then (bif Nat.ble 17 k then (bif Nat.ble 18 k then (bif Nat.ble 19 k then (bif Nat.beq k 19 then "BookExchangeLaw" else "") else (bif Nat.beq k 18 then "jdk/internal/util/Preconditions" else "")) else (bif Nat.beq k 17 then "jdk/internal/util/ArraysSupport" else "")) else (bif Nat.ble 16 k then (bif Nat.beq k 16 then "java/util/Objects" else "") else (bif Nat.beq k 15 then "java/util/ArrayList" else ""))) else (bif Nat.ble 12 k then (bif Nat.ble 13 k then (bif Nat.ble 14 k then (bif Nat.beq k 14 then "java/util/AbstractList" else "") else (bif Nat.beq k 13 then "java/util/AbstractCollection" else "")) else (bif Nat.beq k 12 then "BookExchangeModel" else "")) else (bif Nat.ble 11 k then (bif Nat.beq k 11 then "BookExchange" else "") else (bif Nat.beq k 10 then "BookExchange$Ways" else "")))) else (bif Nat.ble 5 k then (bif Nat.ble 7 k then (bif Nat.ble 8 k then (bif Nat.ble 9 k then (bif Nat.beq k 9 then "BookExchange$Trade" else "") else (bif Nat.beq k 8 then "BookExchange$Order" else "")) else (bif Nat.beq k 7 then "BookExchange$Member" else "")) else (bif Nat.ble 6 k then (bif Nat.beq k 6 then "BookExchange$Matching" else "") else (bif Nat.beq k 5 then "BookExchange$House" else ""))) else (bif Nat.ble 2 k then (bif Nat.ble 3 k then (bif Nat.ble 4 k then (bif Nat.beq k 4 then "BookExchange$Floor" else "") else (bif Nat.beq k 3 then "BookExchange$Defaults" else "")) else (bif Nat.beq k 2 then "BookExchange$Contract" else "")) else (bif Nat.ble 1 k then (bif Nat.beq k 1 then "BookExchange$Book" else "") else (bif Nat.beq k 0 then "BookExchange$Auctions" else ""))))
noncomputable def sOw (i : Nat) : Nat := bif Nat.ble 149 i then (bif Nat.ble 223 i then (bif Nat.ble 260 i then (bif Nat.ble 279 i then (bif Nat.ble 288 i then (bif Nat.ble 293 i then (bif Nat.ble 295 i then (bif Nat.ble 296 i then (bif Nat.ble 297 i then (bif Nat.beq i 297 then 19 else 99) else (bif Nat.beq i 296 then 19 else 99)) else (bif Nat.beq i 295 then 19 else 99)) else (bif Nat.ble 294 i then (bif Nat.beq i 294 then 19 else 99) else (bif Nat.beq i 293 then 19 else 99))) else (bif Nat.ble 290 i then (bif Nat.ble 291 i then (bif Nat.ble 292 i then (bif Nat.beq i 292 then 19 else 99) else (bif Nat.beq i 291 then 19 else 99)) else (bif Nat.beq i 290 then 19 else 99)) else (bif Nat.ble 289 i then (bif Nat.beq i 289 then 19 else 99) else (bif Nat.beq i 288 then 19 else 99)))) else (bif Nat.ble 283 i then (bif Nat.ble 285 i then (bif Nat.ble 286 i then (bif Nat.ble 287 i then (bif Nat.beq i 287 then 19 else 99) else (bif Nat.beq i 286 then 19 else 99)) else (bif Nat.beq i 285 then 19 else 99)) else (bif Nat.ble 284 i then (bif Nat.beq i 284 then 19 else 99) else (bif Nat.beq i 283 then 19 else 99))) else (bif Nat.ble 281 i then (bif Nat.ble 282 i then (bif Nat.beq i 282 then 19 else 99) else (bif Nat.beq i 281 then 19 else 99)) else (bif Nat.ble 280 i then (bif Nat.beq i 280 then 19 else 99) else (bif Nat.beq i 279 then 19 else 99))))) else (bif Nat.ble 269 i then (bif Nat.ble 274 i then (bif Nat.ble 276 i then (bif Nat.ble 277 i then (bif Nat.ble 278 i then (bif Nat.beq i 278 then 19 else 99) else (bif Nat.beq i 277 then 19 else 99)) else (bif Nat.beq i 276 then 19 else 99)) else (bif Nat.ble 275 i then (bif Nat.beq i 275 then 19 else 99) else (bif Nat.beq i 274 then 19 else 99))) else (bif Nat.ble 271 i then (bif Nat.ble 272 i then (bif Nat.ble 273 i then (bif Nat.beq i 273 then 19 else 99) else (bif Nat.beq i 272 then 19 else 99)) else (bif Nat.beq i 271 then 19 else 99)) else (bif Nat.ble 270 i then (bif Nat.beq i 270 then 19 else 99) else (bif Nat.beq i 269 then 19 else 99)))) else (bif Nat.ble 264 i then (bif Nat.ble 266 i then (bif Nat.ble 267 i then (bif Nat.ble 268 i then (bif Nat.beq i 268 then 19 else 99) else (bif Nat.beq i 267 then 19 else 99)) else (bif Nat.beq i 266 then 19 else 99)) else (bif Nat.ble 265 i then (bif Nat.beq i 265 then 19 else 99) else (bif Nat.beq i 264 then 19 else 99))) else (bif Nat.ble 262 i then (bif Nat.ble 263 i then (bif Nat.beq i 263 then 19 else 99) else (bif Nat.beq i 262 then 19 else 99)) else (bif Nat.ble 261 i then (bif Nat.beq i 261 then 19 else 99) else (bif Nat.beq i 260 then 19 else 99)))))) else (bif Nat.ble 241 i then (bif Nat.ble 250 i then (bif Nat.ble 255 i then (bif Nat.ble 257 i then (bif Nat.ble 258 i then (bif Nat.ble 259 i then (bif Nat.beq i 259 then 19 else 99) else (bif Nat.beq i 258 then 18 else 99)) else (bif Nat.beq i 257 then 17 else 99)) else (bif Nat.ble 256 i then (bif Nat.beq i 256 then 16 else 99) else (bif Nat.beq i 255 then 15 else 99))) else (bif Nat.ble 252 i then (bif Nat.ble 253 i then (bif Nat.ble 254 i then (bif Nat.beq i 254 then 15 else 99) else (bif Nat.beq i 253 then 15 else 99)) else (bif Nat.beq i 252 then 15 else 99)) else (bif Nat.ble 251 i then (bif Nat.beq i 251 then 15 else 99) else (bif Nat.beq i 250 then 15 else 99)))) else (bif Nat.ble 245 i then (bif Nat.ble 247 i then (bif Nat.ble 248 i then (bif Nat.ble 249 i then (bif Nat.beq i 249 then 15 else 99) else (bif Nat.beq i 248 then 15 else 99)) else (bif Nat.beq i 247 then 15 else 99)) else (bif Nat.ble 246 i then (bif Nat.beq i 246 then 14 else 99) else (bif Nat.beq i 245 then 13 else 99))) else (bif Nat.ble 243 i then (bif Nat.ble 244 i then (bif Nat.beq i 244 then 12 else 99) else (bif Nat.beq i 243 then 12 else 99)) else (bif Nat.ble 242 i then (bif Nat.beq i 242 then 12 else 99) else (bif Nat.beq i 241 then 12 else 99))))) else (bif Nat.ble 232 i then (bif Nat.ble 236 i then (bif Nat.ble 238 i then (bif Nat.ble 239 i then (bif Nat.ble 240 i then (bif Nat.beq i 240 then 12 else 99) else (bif Nat.beq i 239 then 12 else 99)) else (bif Nat.beq i 238 then 12 else 99)) else (bif Nat.ble 237 i then (bif Nat.beq i 237 then 12 else 99) else (bif Nat.beq i 236 then 12 else 99))) else (bif Nat.ble 234 i then (bif Nat.ble 235 i then (bif Nat.beq i 235 then 12 else 99) else (bif Nat.beq i 234 then 12 else 99)) else (bif Nat.ble 233 i then (bif Nat.beq i 233 then 12 else 99) else (bif Nat.beq i 232 then 12 else 99)))) else (bif Nat.ble 227 i then (bif Nat.ble 229 i then (bif Nat.ble 230 i then (bif Nat.ble 231 i then (bif Nat.beq i 231 then 12 else 99) else (bif Nat.beq i 230 then 12 else 99)) else (bif Nat.beq i 229 then 12 else 99)) else (bif Nat.ble 228 i then (bif Nat.beq i 228 then 12 else 99) else (bif Nat.beq i 227 then 12 else 99))) else (bif Nat.ble 225 i then (bif Nat.ble 226 i then (bif Nat.beq i 226 then 12 else 99) else (bif Nat.beq i 225 then 12 else 99)) else (bif Nat.ble 224 i then (bif Nat.beq i 224 then 12 else 99) else (bif Nat.beq i 223 then 12 else 99))))))) else (bif Nat.ble 186 i then (bif Nat.ble 204 i then (bif Nat.ble 213 i then (bif Nat.ble 218 i then (bif Nat.ble 220 i then (bif Nat.ble 221 i then (bif Nat.ble 222 i then (bif Nat.beq i 222 then 12 else 99) else (bif Nat.beq i 221 then 12 else 99)) else (bif Nat.beq i 220 then 12 else 99)) else (bif Nat.ble 219 i then (bif Nat.beq i 219 then 12 else 99) else (bif Nat.beq i 218 then 12 else 99))) else (bif Nat.ble 215 i then (bif Nat.ble 216 i then (bif Nat.ble 217 i then (bif Nat.beq i 217 then 12 else 99) else (bif Nat.beq i 216 then 12 else 99)) else (bif Nat.beq i 215 then 12 else 99)) else (bif Nat.ble 214 i then (bif Nat.beq i 214 then 12 else 99) else (bif Nat.beq i 213 then 12 else 99)))) else (bif Nat.ble 208 i then (bif Nat.ble 210 i then (bif Nat.ble 211 i then (bif Nat.ble 212 i then (bif Nat.beq i 212 then 12 else 99) else (bif Nat.beq i 211 then 12 else 99)) else (bif Nat.beq i 210 then 12 else 99)) else (bif Nat.ble 209 i then (bif Nat.beq i 209 then 12 else 99) else (bif Nat.beq i 208 then 12 else 99))) else (bif Nat.ble 206 i then (bif Nat.ble 207 i then (bif Nat.beq i 207 then 12 else 99) else (bif Nat.beq i 206 then 12 else 99)) else (bif Nat.ble 205 i then (bif Nat.beq i 205 then 12 else 99) else (bif Nat.beq i 204 then 12 else 99))))) else (bif Nat.ble 195 i then (bif Nat.ble 199 i then (bif Nat.ble 201 i then (bif Nat.ble 202 i then (bif Nat.ble 203 i then (bif Nat.beq i 203 then 12 else 99) else (bif Nat.beq i 202 then 12 else 99)) else (bif Nat.beq i 201 then 12 else 99)) else (bif Nat.ble 200 i then (bif Nat.beq i 200 then 12 else 99) else (bif Nat.beq i 199 then 12 else 99))) else (bif Nat.ble 197 i then (bif Nat.ble 198 i then (bif Nat.beq i 198 then 12 else 99) else (bif Nat.beq i 197 then 12 else 99)) else (bif Nat.ble 196 i then (bif Nat.beq i 196 then 12 else 99) else (bif Nat.beq i 195 then 12 else 99)))) else (bif Nat.ble 190 i then (bif Nat.ble 192 i then (bif Nat.ble 193 i then (bif Nat.ble 194 i then (bif Nat.beq i 194 then 12 else 99) else (bif Nat.beq i 193 then 12 else 99)) else (bif Nat.beq i 192 then 12 else 99)) else (bif Nat.ble 191 i then (bif Nat.beq i 191 then 12 else 99) else (bif Nat.beq i 190 then 12 else 99))) else (bif Nat.ble 188 i then (bif Nat.ble 189 i then (bif Nat.beq i 189 then 12 else 99) else (bif Nat.beq i 188 then 12 else 99)) else (bif Nat.ble 187 i then (bif Nat.beq i 187 then 12 else 99) else (bif Nat.beq i 186 then 12 else 99)))))) else (bif Nat.ble 167 i then (bif Nat.ble 176 i then (bif Nat.ble 181 i then (bif Nat.ble 183 i then (bif Nat.ble 184 i then (bif Nat.ble 185 i then (bif Nat.beq i 185 then 12 else 99) else (bif Nat.beq i 184 then 12 else 99)) else (bif Nat.beq i 183 then 12 else 99)) else (bif Nat.ble 182 i then (bif Nat.beq i 182 then 12 else 99) else (bif Nat.beq i 181 then 12 else 99))) else (bif Nat.ble 178 i then (bif Nat.ble 179 i then (bif Nat.ble 180 i then (bif Nat.beq i 180 then 12 else 99) else (bif Nat.beq i 179 then 12 else 99)) else (bif Nat.beq i 178 then 12 else 99)) else (bif Nat.ble 177 i then (bif Nat.beq i 177 then 12 else 99) else (bif Nat.beq i 176 then 12 else 99)))) else (bif Nat.ble 171 i then (bif Nat.ble 173 i then (bif Nat.ble 174 i then (bif Nat.ble 175 i then (bif Nat.beq i 175 then 12 else 99) else (bif Nat.beq i 174 then 12 else 99)) else (bif Nat.beq i 173 then 12 else 99)) else (bif Nat.ble 172 i then (bif Nat.beq i 172 then 12 else 99) else (bif Nat.beq i 171 then 12 else 99))) else (bif Nat.ble 169 i then (bif Nat.ble 170 i then (bif Nat.beq i 170 then 12 else 99) else (bif Nat.beq i 169 then 12 else 99)) else (bif Nat.ble 168 i then (bif Nat.beq i 168 then 12 else 99) else (bif Nat.beq i 167 then 12 else 99))))) else (bif Nat.ble 158 i then (bif Nat.ble 162 i then (bif Nat.ble 164 i then (bif Nat.ble 165 i then (bif Nat.ble 166 i then (bif Nat.beq i 166 then 12 else 99) else (bif Nat.beq i 165 then 12 else 99)) else (bif Nat.beq i 164 then 12 else 99)) else (bif Nat.ble 163 i then (bif Nat.beq i 163 then 12 else 99) else (bif Nat.beq i 162 then 12 else 99))) else (bif Nat.ble 160 i then (bif Nat.ble 161 i then (bif Nat.beq i 161 then 12 else 99) else (bif Nat.beq i 160 then 12 else 99)) else (bif Nat.ble 159 i then (bif Nat.beq i 159 then 12 else 99) else (bif Nat.beq i 158 then 12 else 99)))) else (bif Nat.ble 153 i then (bif Nat.ble 155 i then (bif Nat.ble 156 i then (bif Nat.ble 157 i then (bif Nat.beq i 157 then 12 else 99) else (bif Nat.beq i 156 then 12 else 99)) else (bif Nat.beq i 155 then 12 else 99)) else (bif Nat.ble 154 i then (bif Nat.beq i 154 then 12 else 99) else (bif Nat.beq i 153 then 12 else 99))) else (bif Nat.ble 151 i then (bif Nat.ble 152 i then (bif Nat.beq i 152 then 12 else 99) else (bif Nat.beq i 151 then 12 else 99)) else (bif Nat.ble 150 i then (bif Nat.beq i 150 then 12 else 99) else (bif Nat.beq i 149 then 12 else 99)))))))) else (bif Nat.ble 74 i then (bif Nat.ble 111 i then (bif Nat.ble 130 i then (bif Nat.ble 139 i then (bif Nat.ble 144 i then (bif Nat.ble 146 i then (bif Nat.ble 147 i then (bif Nat.ble 148 i then (bif Nat.beq i 148 then 12 else 99) else (bif Nat.beq i 147 then 12 else 99)) else (bif Nat.beq i 146 then 12 else 99)) else (bif Nat.ble 145 i then (bif Nat.beq i 145 then 12 else 99) else (bif Nat.beq i 144 then 12 else 99))) else (bif Nat.ble 141 i then (bif Nat.ble 142 i then (bif Nat.ble 143 i then (bif Nat.beq i 143 then 12 else 99) else (bif Nat.beq i 142 then 12 else 99)) else (bif Nat.beq i 141 then 11 else 99)) else (bif Nat.ble 140 i then (bif Nat.beq i 140 then 11 else 99) else (bif Nat.beq i 139 then 11 else 99)))) else (bif Nat.ble 134 i then (bif Nat.ble 136 i then (bif Nat.ble 137 i then (bif Nat.ble 138 i then (bif Nat.beq i 138 then 11 else 99) else (bif Nat.beq i 137 then 11 else 99)) else (bif Nat.beq i 136 then 11 else 99)) else (bif Nat.ble 135 i then (bif Nat.beq i 135 then 11 else 99) else (bif Nat.beq i 134 then 11 else 99))) else (bif Nat.ble 132 i then (bif Nat.ble 133 i then (bif Nat.beq i 133 then 11 else 99) else (bif Nat.beq i 132 then 11 else 99)) else (bif Nat.ble 131 i then (bif Nat.beq i 131 then 11 else 99) else (bif Nat.beq i 130 then 11 else 99))))) else (bif Nat.ble 120 i then (bif Nat.ble 125 i then (bif Nat.ble 127 i then (bif Nat.ble 128 i then (bif Nat.ble 129 i then (bif Nat.beq i 129 then 11 else 99) else (bif Nat.beq i 128 then 11 else 99)) else (bif Nat.beq i 127 then 11 else 99)) else (bif Nat.ble 126 i then (bif Nat.beq i 126 then 11 else 99) else (bif Nat.beq i 125 then 11 else 99))) else (bif Nat.ble 122 i then (bif Nat.ble 123 i then (bif Nat.ble 124 i then (bif Nat.beq i 124 then 11 else 99) else (bif Nat.beq i 123 then 11 else 99)) else (bif Nat.beq i 122 then 11 else 99)) else (bif Nat.ble 121 i then (bif Nat.beq i 121 then 11 else 99) else (bif Nat.beq i 120 then 11 else 99)))) else (bif Nat.ble 115 i then (bif Nat.ble 117 i then (bif Nat.ble 118 i then (bif Nat.ble 119 i then (bif Nat.beq i 119 then 11 else 99) else (bif Nat.beq i 118 then 11 else 99)) else (bif Nat.beq i 117 then 11 else 99)) else (bif Nat.ble 116 i then (bif Nat.beq i 116 then 11 else 99) else (bif Nat.beq i 115 then 11 else 99))) else (bif Nat.ble 113 i then (bif Nat.ble 114 i then (bif Nat.beq i 114 then 11 else 99) else (bif Nat.beq i 113 then 11 else 99)) else (bif Nat.ble 112 i then (bif Nat.beq i 112 then 11 else 99) else (bif Nat.beq i 111 then 11 else 99)))))) else (bif Nat.ble 92 i then (bif Nat.ble 101 i then (bif Nat.ble 106 i then (bif Nat.ble 108 i then (bif Nat.ble 109 i then (bif Nat.ble 110 i then (bif Nat.beq i 110 then 11 else 99) else (bif Nat.beq i 109 then 11 else 99)) else (bif Nat.beq i 108 then 11 else 99)) else (bif Nat.ble 107 i then (bif Nat.beq i 107 then 11 else 99) else (bif Nat.beq i 106 then 11 else 99))) else (bif Nat.ble 103 i then (bif Nat.ble 104 i then (bif Nat.ble 105 i then (bif Nat.beq i 105 then 11 else 99) else (bif Nat.beq i 104 then 11 else 99)) else (bif Nat.beq i 103 then 11 else 99)) else (bif Nat.ble 102 i then (bif Nat.beq i 102 then 11 else 99) else (bif Nat.beq i 101 then 11 else 99)))) else (bif Nat.ble 96 i then (bif Nat.ble 98 i then (bif Nat.ble 99 i then (bif Nat.ble 100 i then (bif Nat.beq i 100 then 11 else 99) else (bif Nat.beq i 99 then 11 else 99)) else (bif Nat.beq i 98 then 11 else 99)) else (bif Nat.ble 97 i then (bif Nat.beq i 97 then 11 else 99) else (bif Nat.beq i 96 then 11 else 99))) else (bif Nat.ble 94 i then (bif Nat.ble 95 i then (bif Nat.beq i 95 then 11 else 99) else (bif Nat.beq i 94 then 11 else 99)) else (bif Nat.ble 93 i then (bif Nat.beq i 93 then 11 else 99) else (bif Nat.beq i 92 then 11 else 99))))) else (bif Nat.ble 83 i then (bif Nat.ble 87 i then (bif Nat.ble 89 i then (bif Nat.ble 90 i then (bif Nat.ble 91 i then (bif Nat.beq i 91 then 11 else 99) else (bif Nat.beq i 90 then 11 else 99)) else (bif Nat.beq i 89 then 11 else 99)) else (bif Nat.ble 88 i then (bif Nat.beq i 88 then 11 else 99) else (bif Nat.beq i 87 then 11 else 99))) else (bif Nat.ble 85 i then (bif Nat.ble 86 i then (bif Nat.beq i 86 then 11 else 99) else (bif Nat.beq i 85 then 11 else 99)) else (bif Nat.ble 84 i then (bif Nat.beq i 84 then 11 else 99) else (bif Nat.beq i 83 then 11 else 99)))) else (bif Nat.ble 78 i then (bif Nat.ble 80 i then (bif Nat.ble 81 i then (bif Nat.ble 82 i then (bif Nat.beq i 82 then 10 else 99) else (bif Nat.beq i 81 then 10 else 99)) else (bif Nat.beq i 80 then 10 else 99)) else (bif Nat.ble 79 i then (bif Nat.beq i 79 then 10 else 99) else (bif Nat.beq i 78 then 10 else 99))) else (bif Nat.ble 76 i then (bif Nat.ble 77 i then (bif Nat.beq i 77 then 9 else 99) else (bif Nat.beq i 76 then 9 else 99)) else (bif Nat.ble 75 i then (bif Nat.beq i 75 then 8 else 99) else (bif Nat.beq i 74 then 8 else 99))))))) else (bif Nat.ble 37 i then (bif Nat.ble 55 i then (bif Nat.ble 64 i then (bif Nat.ble 69 i then (bif Nat.ble 71 i then (bif Nat.ble 72 i then (bif Nat.ble 73 i then (bif Nat.beq i 73 then 8 else 99) else (bif Nat.beq i 72 then 8 else 99)) else (bif Nat.beq i 71 then 8 else 99)) else (bif Nat.ble 70 i then (bif Nat.beq i 70 then 8 else 99) else (bif Nat.beq i 69 then 7 else 99))) else (bif Nat.ble 66 i then (bif Nat.ble 67 i then (bif Nat.ble 68 i then (bif Nat.beq i 68 then 7 else 99) else (bif Nat.beq i 67 then 6 else 99)) else (bif Nat.beq i 66 then 6 else 99)) else (bif Nat.ble 65 i then (bif Nat.beq i 65 then 6 else 99) else (bif Nat.beq i 64 then 6 else 99)))) else (bif Nat.ble 59 i then (bif Nat.ble 61 i then (bif Nat.ble 62 i then (bif Nat.ble 63 i then (bif Nat.beq i 63 then 6 else 99) else (bif Nat.beq i 62 then 6 else 99)) else (bif Nat.beq i 61 then 6 else 99)) else (bif Nat.ble 60 i then (bif Nat.beq i 60 then 6 else 99) else (bif Nat.beq i 59 then 6 else 99))) else (bif Nat.ble 57 i then (bif Nat.ble 58 i then (bif Nat.beq i 58 then 6 else 99) else (bif Nat.beq i 57 then 6 else 99)) else (bif Nat.ble 56 i then (bif Nat.beq i 56 then 6 else 99) else (bif Nat.beq i 55 then 6 else 99))))) else (bif Nat.ble 46 i then (bif Nat.ble 50 i then (bif Nat.ble 52 i then (bif Nat.ble 53 i then (bif Nat.ble 54 i then (bif Nat.beq i 54 then 5 else 99) else (bif Nat.beq i 53 then 5 else 99)) else (bif Nat.beq i 52 then 5 else 99)) else (bif Nat.ble 51 i then (bif Nat.beq i 51 then 5 else 99) else (bif Nat.beq i 50 then 5 else 99))) else (bif Nat.ble 48 i then (bif Nat.ble 49 i then (bif Nat.beq i 49 then 5 else 99) else (bif Nat.beq i 48 then 5 else 99)) else (bif Nat.ble 47 i then (bif Nat.beq i 47 then 5 else 99) else (bif Nat.beq i 46 then 5 else 99)))) else (bif Nat.ble 41 i then (bif Nat.ble 43 i then (bif Nat.ble 44 i then (bif Nat.ble 45 i then (bif Nat.beq i 45 then 5 else 99) else (bif Nat.beq i 44 then 5 else 99)) else (bif Nat.beq i 43 then 5 else 99)) else (bif Nat.ble 42 i then (bif Nat.beq i 42 then 5 else 99) else (bif Nat.beq i 41 then 4 else 99))) else (bif Nat.ble 39 i then (bif Nat.ble 40 i then (bif Nat.beq i 40 then 4 else 99) else (bif Nat.beq i 39 then 4 else 99)) else (bif Nat.ble 38 i then (bif Nat.beq i 38 then 4 else 99) else (bif Nat.beq i 37 then 4 else 99)))))) else (bif Nat.ble 18 i then (bif Nat.ble 27 i then (bif Nat.ble 32 i then (bif Nat.ble 34 i then (bif Nat.ble 35 i then (bif Nat.ble 36 i then (bif Nat.beq i 36 then 4 else 99) else (bif Nat.beq i 35 then 4 else 99)) else (bif Nat.beq i 34 then 4 else 99)) else (bif Nat.ble 33 i then (bif Nat.beq i 33 then 4 else 99) else (bif Nat.beq i 32 then 4 else 99))) else (bif Nat.ble 29 i then (bif Nat.ble 30 i then (bif Nat.ble 31 i then (bif Nat.beq i 31 then 4 else 99) else (bif Nat.beq i 30 then 4 else 99)) else (bif Nat.beq i 29 then 4 else 99)) else (bif Nat.ble 28 i then (bif Nat.beq i 28 then 4 else 99) else (bif Nat.beq i 27 then 4 else 99)))) else (bif Nat.ble 22 i then (bif Nat.ble 24 i then (bif Nat.ble 25 i then (bif Nat.ble 26 i then (bif Nat.beq i 26 then 4 else 99) else (bif Nat.beq i 25 then 3 else 99)) else (bif Nat.beq i 24 then 3 else 99)) else (bif Nat.ble 23 i then (bif Nat.beq i 23 then 3 else 99) else (bif Nat.beq i 22 then 3 else 99))) else (bif Nat.ble 20 i then (bif Nat.ble 21 i then (bif Nat.beq i 21 then 3 else 99) else (bif Nat.beq i 20 then 3 else 99)) else (bif Nat.ble 19 i then (bif Nat.beq i 19 then 3 else 99) else (bif Nat.beq i 18 then 3 else 99))))) else (bif Nat.ble 9 i then (bif Nat.ble 13 i then (bif Nat.ble 15 i then (bif Nat.ble 16 i then (bif Nat.ble 17 i then (bif Nat.beq i 17 then 3 else 99) else (bif Nat.beq i 16 then 3 else 99)) else (bif Nat.beq i 15 then 3 else 99)) else (bif Nat.ble 14 i then (bif Nat.beq i 14 then 3 else 99) else (bif Nat.beq i 13 then 2 else 99))) else (bif Nat.ble 11 i then (bif Nat.ble 12 i then (bif Nat.beq i 12 then 2 else 99) else (bif Nat.beq i 11 then 1 else 99)) else (bif Nat.ble 10 i then (bif Nat.beq i 10 then 1 else 99) else (bif Nat.beq i 9 then 1 else 99)))) else (bif Nat.ble 4 i then (bif Nat.ble 6 i then (bif Nat.ble 7 i then (bif Nat.ble 8 i then (bif Nat.beq i 8 then 1 else 99) else (bif Nat.beq i 7 then 1 else 99)) else (bif Nat.beq i 6 then 0 else 99)) else (bif Nat.ble 5 i then (bif Nat.beq i 5 then 0 else 99) else (bif Nat.beq i 4 then 0 else 99))) else (bif Nat.ble 2 i then (bif Nat.ble 3 i then (bif Nat.beq i 3 then 0 else 99) else (bif Nat.beq i 2 then 0 else 99)) else (bif Nat.ble 1 i then (bif Nat.beq i 1 then 0 else 99) else (bif Nat.beq i 0 then 0 else 99))))))))
def sFLt : List (Nat × Nat × Nat × Nat × Nat) := [(0, 9, 0, 0, 2046), (0, 15, 1, 0, 2047), (0, 25, 65, 0, 1204), (0, 29, 129, 0, 1086), (0, 39, 516, 0, 4234), (0, 62, 529, 0, 5024), (0, 70, 523, 0, 5013), (0, 91, 130, 0, 1091), (0, 94, 67, 0, 1215), (0, 97, 513, 0, 4224), (1, 9, 67, 0, 1212), (1, 15, 64, 0, 1200), (1, 18, 65, 0, 1203), (1, 22, 66, 0, 1208), (1, 25, 69, 0, 1219), (1, 29, 70, 0, 1220), (1, 32, 515, 0, 4231), (1, 38, 516, 0, 4236), (1, 41, 529, 0, 5026), (2, 9, 129, 0, 1085), (2, 15, 130, 0, 1090), (2, 18, 131, 0, 1093), (2, 21, 128, 0, 1078), (3, 7, 192, 0, 2059), (3, 13, 321, 0, 1162), (3, 19, 456, 0, 1128), (3, 25, 457, 0, 1130), (3, 33, 458, 0, 1133), (3, 44, 320, 0, 1160), (3, 62, 451, 0, 1118), (3, 65, 129, 0, 1088), (3, 82, 455, 0, 1127), (3, 93, 452, 0, 1122), (3, 99, 324, 0, 1169), (3, 102, 450, 0, 1116), (3, 105, 325, 0, 1170), (4, 11, 256, 0, 1236), (4, 20, 257, 0, 1239), (4, 40, 258, 0, 2001), (4, 44, 525, 0, 5019), (4, 47, 522, 0, 5008), (4, 53, 514, 0, 4227), (4, 61, 523, 0, 5012), (4, 64, 519, 0, 5002), (4, 78, 513, 0, 4223), (4, 89, 520, 0, 5004), (4, 92, 454, 0, 1124), (4, 104, 524, 0, 5016), (4, 111, 521, 0, 5006), (4, 114, 515, 0, 4232), (4, 125, 65, 0, 1207), (4, 133, 66, 0, 1211), (4, 136, 128, 0, 1083), (5, 11, 320, 0, 1158), (5, 19, 321, 0, 1161), (5, 26, 322, 0, 1164), (5, 30, 323, 0, 1167), (5, 53, 129, 0, 1087), (5, 57, 66, 0, 1209), (5, 63, 65, 0, 1205), (5, 74, 576, 0, 3031), (5, 77, 581, 0, 3044), (5, 81, 577, 0, 3034), (5, 85, 580, 0, 3042), (5, 87, 578, 0, 3037), (5, 90, 450, 0, 1115), (5, 93, 451, 0, 1119), (5, 100, 128, 0, 1082), (5, 112, 454, 0, 1125), (5, 115, 457, 0, 1131), (6, 12, 387, 0, 2030), (6, 18, 384, 0, 2027), (6, 22, 385, 0, 2028), (6, 26, 386, 0, 2029), (6, 31, 523, 0, 5011), (6, 37, 322, 0, 1165), (6, 46, 514, 0, 4226), (6, 50, 515, 0, 4230), (6, 72, 513, 0, 4222), (6, 101, 68, 0, 1217), (6, 126, 516, 0, 4235), (6, 129, 529, 0, 5025), (6, 142, 66, 0, 1210), (6, 146, 65, 0, 1206), (6, 153, 527, 0, 5022), (6, 156, 528, 0, 5023), (6, 164, 128, 0, 1081), (6, 167, 256, 0, 1238), (6, 171, 67, 0, 1216), (6, 174, 64, 0, 1202), (6, 183, 526, 0, 5021), (6, 196, 524, 0, 5017), (7, 9, 449, 0, 1112), (7, 15, 448, 0, 1110), (7, 19, 128, 0, 1079), (8, 9, 522, 0, 5007), (8, 15, 512, 0, 4219), (8, 18, 513, 0, 4221), (8, 22, 514, 0, 4225), (8, 26, 515, 0, 4229), (8, 30, 516, 0, 4233), (8, 33, 517, 0, 4238), (8, 36, 523, 0, 5010), (8, 39, 518, 0, 5000), (8, 42, 525, 0, 5020), (8, 51, 524, 0, 5015), (9, 7, 576, 0, 3030), (9, 13, 577, 0, 3033), (9, 17, 578, 0, 3036), (9, 20, 579, 0, 3039), (9, 24, 580, 0, 3041), (9, 27, 128, 0, 1080), (9, 32, 449, 0, 1113), (9, 38, 451, 0, 1117), (10, 9, 640, 0, 2015), (10, 21, 67, 0, 1214), (10, 31, 64, 0, 1201), (10, 46, 516, 0, 4237), (11, 12, 320, 0, 1159), (11, 21, 256, 0, 1237), (11, 28, 704, 0, 2063), (11, 34, 705, 0, 2064), (11, 38, 706, 0, 2065), (11, 47, 707, 0, 2066), (11, 56, 708, 0, 2067), (11, 65, 709, 0, 2068), (11, 73, 67, 0, 1213), (11, 101, 68, 0, 1218), (11, 113, 130, 0, 1092), (11, 118, 131, 0, 1094), (11, 127, 450, 0, 1114), (11, 132, 458, 0, 1134), (11, 143, 452, 0, 1121), (11, 146, 324, 0, 1168), (11, 149, 453, 0, 1123), (11, 179, 517, 0, 4239), (11, 184, 512, 0, 4220), (11, 187, 519, 0, 5003), (11, 190, 518, 0, 5001), (11, 193, 522, 0, 5009), (11, 204, 520, 0, 5005), (11, 218, 523, 0, 5014), (11, 225, 581, 0, 3045), (11, 230, 577, 0, 3035), (11, 234, 578, 0, 3038), (11, 237, 580, 0, 3043), (11, 244, 457, 0, 1132), (11, 247, 456, 0, 1129), (11, 279, 448, 0, 1111), (11, 280, 257, 0, 2000), (11, 288, 524, 0, 5018), (11, 313, 129, 0, 1089), (11, 316, 322, 0, 1166), (11, 319, 576, 0, 3032), (11, 323, 128, 0, 1084), (11, 324, 579, 0, 3040), (11, 335, 451, 0, 1120), (11, 338, 325, 0, 1171), (11, 361, 321, 0, 1163), (11, 391, 514, 0, 4228), (11, 400, 454, 0, 1126), (12, 7, 769, 0, 6132), (12, 13, 770, 0, 6133), (12, 17, 771, 0, 6134), (12, 20, 772, 0, 6135), (12, 23, 773, 0, 6136), (12, 26, 774, 0, 6137), (12, 29, 775, 0, 6138), (12, 32, 776, 0, 6139), (12, 35, 777, 0, 6140), (12, 38, 778, 0, 6141), (12, 41, 779, 0, 6142), (12, 44, 780, 0, 6143), (12, 47, 781, 0, 6144), (12, 50, 782, 0, 6145), (12, 53, 783, 0, 6146), (12, 56, 787, 0, 6150), (12, 59, 788, 0, 6151), (12, 62, 789, 0, 6152), (12, 65, 790, 0, 6153), (12, 68, 791, 0, 6154), (12, 71, 792, 0, 6155), (12, 74, 793, 0, 6156), (12, 77, 794, 0, 6157), (12, 80, 795, 0, 6158), (12, 83, 796, 0, 6159), (12, 86, 797, 0, 6160), (12, 89, 798, 0, 6161), (12, 92, 799, 0, 6162), (12, 95, 802, 0, 6165), (12, 98, 803, 0, 6166), (12, 101, 804, 0, 6167), (12, 104, 805, 0, 6168), (12, 107, 806, 0, 6169), (12, 110, 807, 0, 6170), (12, 113, 808, 0, 6171), (12, 116, 809, 0, 6172), (12, 119, 810, 0, 6173), (12, 122, 812, 0, 6175), (12, 125, 813, 0, 6176), (12, 128, 768, 0, 6131), (12, 136, 786, 0, 6149), (12, 147, 800, 0, 6163), (12, 161, 811, 0, 6174), (12, 179, 801, 0, 6164), (12, 296, 784, 0, 6147), (12, 332, 785, 0, 6148), (14, 7, 832, 0, 1063), (15, 9, 833, 0, 1061), (15, 48, 834, 0, 1062), (15, 63, 832, 1, 1064)]
def sSamePos : Nat := 1065
def sNKt : List (Nat × Nat × Nat × Nat) := [(4, 17, 13, 1193), (4, 9, 1, 1191), (4, 27, 8, 3164), (5, 23, 13, 1047), (5, 9, 2, 1043), (5, 17, 7, 1045), (5, 38, 9, 3024), (6, 9, 13, 2025), (11, 7, 5, 1037), (11, 10, 4, 1185), (11, 19, 10, 2009), (11, 42, 6, 2019), (11, 51, 0, 2040), (11, 60, 3, 2053), (19, 8, 11, 1029), (19, 140, 12, 6125)]
def sCKt : List (Nat × Nat × Nat × Nat) := [(4, 27, 8, 3164), (5, 38, 9, 3024), (6, 32, 8, 4002), (11, 180, 8, 5103), (11, 226, 9, 5118)]
def sAKt : List (Nat × Nat × Nat × Nat) := [(4, 9, 24, 1191), (5, 9, 25, 1043), (5, 17, 26, 1045), (15, 7, 27, 3120)]
def sKTt : List (Nat × Nat × Int32 × Nat) := [(6, 30, (1000000), 3197), (11, 125, (-1000000), 4119), (11, 126, (1000000), 4120), (11, 135, (100000000), 4121), (12, 287, (-1000000), 7204), (12, 288, (1000000), 7205), (12, 289, (100000000), 7206), (17, 200, (2147483639), 3081)]
def sLy0 : List Nat := [2048, 2050]
def sLy1 : List Nat := [1221, 1223, 1225, 1227, 1229, 1231, 1233]
def sLy2 : List Nat := [1095, 1097, 1099, 1101]
def sLy3 : List Nat := [2060]
def sLy4 : List Nat := [2002, 2004, 2006]
def sLy5 : List Nat := [1172, 1174, 1176, 1178, 1180, 1182]
def sLy6 : List Nat := [2031, 2033, 2035, 2037]
def sLy7 : List Nat := [1135, 1137, 1139, 1141, 1143, 1145, 1147, 1149, 1151, 1153, 1155]
def sLy8 : List Nat := [5027, 5029, 5031, 5033, 5035, 5037, 5039, 5041, 5043, 5045, 5047, 5049, 5051, 5053, 5055, 5057, 5059, 5061]
def sLy9 : List Nat := [3046, 3048, 3050, 3052, 3054, 3056]
def sLy10 : List Nat := [2016]
def sLy11 : List Nat := [2069, 2071, 2073, 2075, 2077, 2079]
def sLy12 : List Nat := [6177, 6179, 6181, 6183, 6185, 6187, 6189, 6191, 6193, 6195, 6197, 6199, 6201, 6203, 6205, 6207, 6209, 6211, 6213, 6215, 6217, 6219, 6221, 6223, 6225, 6227, 6229, 6231, 6233, 6235, 6237, 6239, 7001, 7003, 7005, 7007, 7009, 7011, 7013, 7015, 7017, 7019, 7021, 7023, 7025, 7027]
def sLy13 : List Nat := [1070, 1066, 1068]
def sIPt : List (Nat × Nat × Nat) := [(2041, 1012, 8205), (1195, 1009, 8198), (1073, 1006, 8196), (2054, 1013, 8206), (1186, 1008, 8202), (1038, 1002, 8200), (2020, 1011, 8204), (1105, 1007, 8197), (4214, 1028, 8212), (3025, 1021, 8210), (2010, 1010, 8203), (1030, 1001, 8199), (6126, 1014, 8207), (1048, 1005, 8201)]
def sArP : List (Nat × Nat) := [(20, 1104), (21, 1104), (22, 7030), (23, 8194)]
def sAoP : List (Nat × Nat) := [(24, 1192), (25, 1044), (26, 1046), (27, 3113)]
def sOIt : List (Nat × Nat × Nat) := [(0, 3, 2045), (1, 3, 1199), (2, 3, 1077), (3, 1, 2058), (4, 3, 1190), (5, 3, 1042), (6, 3, 2024), (7, 3, 1109), (8, 3, 4218), (9, 1, 3029), (10, 3, 2014), (11, 1, 1034), (12, 1, 6130), (13, 1, 1058)]
def sOIp : Nat × Nat := (1035, 1036)
def sGSt : List (Nat × Nat × Nat × Nat × Nat × Nat) := [(15, 39, 27, 0, 0, 1059), (10, 34, 28, 0, 1, 3211), (12, 150, 28, 1, 0, 7145)]
def sMLt0 : List (Nat × Nat × Nat × Nat) := [(0, 19, 8, 2228), (0, 35, 9, 2232), (0, 44, 3, 2236), (0, 58, 2, 3009), (0, 66, 72, 2239), (0, 73, 1, 2224), (0, 77, 5, 3012), (0, 81, 6, 3137), (0, 85, 36, 3145), (0, 101, 47, 3016), (0, 107, 34, 3125), (0, 111, 75, 3140), (3, 29, 16, 5150), (3, 36, 50, 5154), (3, 40, 49, 5155), (3, 48, 69, 5160), (3, 58, 18, 5162), (3, 70, 45, 5166), (3, 74, 20, 5171), (3, 78, 21, 5175), (3, 85, 22, 5178), (3, 108, 24, 5192), (3, 114, 25, 5199), (4, 19, 247, 1194), (4, 24, 7, 1196), (4, 29, 250, 3149), (4, 33, 70, 4215), (4, 36, 254, 5064), (4, 50, 75, 4050), (4, 57, 10, 4051), (4, 68, 28, 4046), (4, 71, 11, 3133), (4, 74, 252, 3150), (4, 82, 71, 3177), (4, 86, 30, 3181), (4, 97, 33, 3129), (4, 101, 34, 4045), (4, 107, 73, 3165), (4, 117, 74, 6013), (4, 121, 40, 4130)]
def sMLt1 : List (Nat × Nat × Nat × Nat) := [(4, 129, 41, 4133), (5, 25, 247, 1049), (5, 34, 12, 1074), (5, 37, 68, 1106), (5, 40, 76, 3026), (5, 43, 254, 3059), (5, 47, 77, 3121), (5, 50, 45, 3020), (5, 66, 250, 6081), (5, 70, 252, 6082), (5, 96, 69, 4140), (5, 103, 43, 4144), (6, 11, 247, 2026), (6, 42, 250, 3198), (6, 54, 82, 3199), (6, 60, 81, 3219), (6, 64, 72, 3220), (6, 68, 57, 3221), (6, 76, 59, 3237), (6, 80, 60, 4004), (6, 84, 62, 4012), (6, 88, 63, 4021), (6, 92, 64, 4025), (6, 95, 67, 4055), (6, 98, 255, 3225), (6, 106, 9, 3229), (6, 110, 58, 3230), (6, 114, 80, 3235), (6, 118, 79, 3236), (6, 122, 254, 3234), (6, 133, 252, 4001), (6, 137, 30, 4003), (6, 149, 61, 4008), (6, 159, 13, 4016), (6, 175, 65, 4029), (6, 179, 36, 4038), (6, 186, 47, 4039), (6, 190, 33, 4040), (6, 193, 35, 4041), (6, 205, 66, 4034)]
def sMLt2 : List (Nat × Nat × Nat × Nat) := [(6, 208, 8, 4059), (6, 212, 46, 4060), (10, 27, 9, 3218), (10, 38, 80, 3207), (10, 42, 79, 3213), (10, 51, 81, 3203), (11, 9, 42, 1039), (11, 16, 26, 1187), (11, 25, 78, 2011), (11, 44, 55, 2021), (11, 53, 0, 2042), (11, 62, 14, 2055), (11, 69, 133, 2111), (11, 79, 129, 2183), (11, 83, 52, 2216), (11, 86, 4, 2220), (11, 90, 141, 3169), (11, 93, 37, 3185), (11, 97, 140, 3189), (11, 105, 132, 4083), (11, 109, 127, 4088), (11, 121, 131, 4114), (11, 136, 137, 4122), (11, 140, 49, 4149), (11, 152, 126, 4181), (11, 156, 43, 4185), (11, 160, 44, 4186), (11, 163, 128, 4197), (11, 167, 130, 4201), (11, 171, 138, 4205), (11, 175, 27, 4210), (11, 196, 139, 5086), (11, 200, 32, 3173), (11, 207, 134, 5097), (11, 211, 71, 5104), (11, 215, 30, 5105), (11, 221, 135, 5113), (11, 240, 77, 5119), (11, 250, 53, 5127), (11, 254, 50, 5138)]
def sMLt3 : List (Nat × Nat × Nat × Nat) := [(11, 258, 31, 5142), (11, 262, 15, 5146), (11, 266, 17, 5156), (11, 270, 19, 5167), (11, 273, 54, 5182), (11, 276, 23, 5186), (11, 284, 250, 2086), (11, 291, 9, 5238), (11, 295, 136, 5239), (11, 299, 38, 6009), (11, 303, 82, 6024), (11, 307, 81, 6032), (11, 311, 1, 6040), (11, 327, 69, 6069), (11, 331, 48, 6077), (11, 353, 8, 4200), (11, 373, 252, 5102), (11, 379, 39, 4126), (11, 383, 51, 4136), (11, 387, 40, 4209), (11, 395, 56, 3193), (11, 398, 29, 4064), (12, 132, 145, 7042), (12, 139, 152, 7079), (12, 143, 155, 7106), (12, 153, 157, 7142), (12, 157, 151, 7095), (12, 164, 158, 7147), (12, 167, 153, 7075), (12, 171, 159, 7138), (12, 175, 160, 7150), (12, 182, 163, 7087), (12, 185, 162, 7083), (12, 189, 164, 7098), (12, 193, 167, 7102), (12, 197, 161, 7134), (12, 200, 169, 7154), (12, 203, 156, 7118), (12, 207, 170, 7158), (12, 210, 171, 7162)]
def sMLt4 : List (Nat × Nat × Nat × Nat) := [(12, 213, 174, 7166), (12, 216, 175, 7178), (12, 220, 172, 7170), (12, 223, 165, 7091), (12, 227, 168, 7174), (12, 230, 166, 7110), (12, 233, 173, 7130), (12, 237, 154, 7182), (12, 240, 177, 7114), (12, 243, 176, 7126), (12, 246, 180, 7219), (12, 249, 185, 7211), (12, 252, 183, 7215), (12, 256, 146, 7039), (12, 259, 144, 7045), (12, 262, 188, 7065), (12, 266, 189, 7069), (12, 269, 190, 7072), (12, 272, 179, 7057), (12, 275, 191, 7061), (12, 278, 178, 7122), (12, 281, 147, 7194), (12, 284, 148, 7201), (12, 290, 184, 7207), (12, 293, 182, 7223), (12, 299, 200, 8018), (12, 303, 202, 8022), (12, 306, 150, 8007), (12, 309, 201, 8010), (12, 313, 203, 8014), (12, 317, 207, 8038), (12, 320, 149, 8046), (12, 323, 210, 8054), (12, 326, 216, 8078), (12, 329, 214, 8082), (12, 335, 217, 8090), (12, 338, 181, 8066), (12, 340, 213, 8070), (12, 343, 215, 8074), (12, 346, 218, 8086)]
def sMLt5 : List (Nat × Nat × Nat × Nat) := [(12, 349, 236, 8162), (14, 1, 245, 1055), (15, 1, 246, 1052), (15, 73, 257, 3075), (15, 69, 248, 3071), (15, 118, 256, 3154), (15, 123, 251, 3160), (15, 129, 249, 3067), (15, 131, 253, 3063), (16, 105, 258, 3157), (19, 7, 84, 2107), (19, 17, 85, 2205), (19, 20, 86, 2212), (19, 23, 87, 4071), (19, 27, 88, 4079), (19, 33, 89, 4110), (19, 37, 90, 4156), (19, 40, 91, 4163), (19, 43, 92, 4170), (19, 46, 93, 4177), (19, 50, 94, 4193), (19, 54, 95, 5068), (19, 58, 96, 5075), (19, 61, 97, 5082), (19, 65, 98, 5093), (19, 68, 99, 5109), (19, 71, 100, 5123), (19, 74, 101, 5134), (19, 77, 102, 5206), (19, 80, 104, 5213), (19, 83, 105, 5220), (19, 86, 106, 5227), (19, 89, 107, 5234), (19, 93, 108, 6005), (19, 96, 109, 6020), (19, 99, 110, 6028), (19, 102, 111, 6036), (19, 105, 112, 6044), (19, 108, 113, 6051), (19, 111, 115, 6058)]
def sMLt6 : List (Nat × Nat × Nat × Nat) := [(19, 114, 116, 6065), (19, 117, 117, 6073), (19, 120, 118, 6086), (19, 123, 119, 6093), (19, 126, 120, 6100), (19, 129, 121, 6107), (19, 132, 122, 6114), (19, 135, 123, 6121), (19, 139, 83, 1031), (19, 142, 142, 6127), (19, 143, 259, 2102), (19, 148, 186, 7035), (19, 149, 143, 7031), (19, 153, 260, 2202), (19, 155, 187, 7049), (19, 156, 261, 2209), (19, 158, 192, 7053), (19, 159, 262, 4068), (19, 162, 193, 7186), (19, 163, 263, 4075), (19, 166, 194, 7190), (19, 167, 264, 4107), (19, 170, 195, 7197), (19, 171, 265, 4153), (19, 173, 196, 7227), (19, 174, 266, 4160), (19, 176, 197, 7231), (19, 177, 267, 4167), (19, 179, 198, 7235), (19, 180, 268, 4174), (19, 183, 199, 7239), (19, 184, 269, 4190), (19, 187, 204, 8003), (19, 188, 270, 5065), (19, 191, 205, 8026), (19, 192, 271, 5072), (19, 194, 206, 8030), (19, 195, 272, 5079), (19, 198, 208, 8034), (19, 199, 273, 5090)]
def sMLt7 : List (Nat × Nat × Nat × Nat) := [(19, 201, 209, 8042), (19, 202, 274, 5106), (19, 204, 211, 8050), (19, 205, 275, 5120), (19, 207, 212, 8058), (19, 208, 276, 5131), (19, 210, 219, 8062), (19, 211, 277, 5203), (19, 213, 220, 8094), (19, 214, 103, 2082), (19, 217, 221, 8098), (19, 218, 278, 5210), (19, 220, 222, 8102), (19, 221, 279, 5217), (19, 223, 223, 8106), (19, 224, 280, 5224), (19, 226, 224, 8110), (19, 227, 281, 5231), (19, 229, 225, 8114), (19, 230, 282, 6002), (19, 232, 226, 8118), (19, 233, 283, 6017), (19, 235, 227, 8122), (19, 236, 284, 6025), (19, 238, 228, 8126), (19, 239, 285, 6033), (19, 241, 229, 8130), (19, 242, 286, 6041), (19, 244, 230, 8134), (19, 245, 287, 6048), (19, 247, 231, 8138), (19, 248, 114, 2090), (19, 251, 232, 8142), (19, 252, 288, 6055), (19, 254, 233, 8146), (19, 255, 289, 6062), (19, 257, 234, 8150), (19, 258, 290, 6070), (19, 260, 235, 8154), (19, 261, 291, 6083)]
def sMLt8 : List (Nat × Nat × Nat × Nat) := [(19, 263, 237, 8158), (19, 264, 292, 6090), (19, 266, 238, 8166), (19, 267, 293, 6097), (19, 269, 239, 8170), (19, 270, 294, 6104), (19, 272, 240, 8174), (19, 273, 295, 6111), (19, 275, 241, 8178), (19, 276, 296, 6118), (19, 278, 242, 8182), (19, 279, 124, 2094), (19, 282, 243, 8186), (19, 283, 125, 2098), (19, 286, 244, 8190)]
def sMLt : List (Nat × Nat × Nat × Nat) := sMLt0 ++ (sMLt1 ++ (sMLt2 ++ (sMLt3 ++ (sMLt4 ++ (sMLt5 ++ (sMLt6 ++ (sMLt7 ++ (sMLt8))))))))
def sCEt0 : List (Nat × Nat × Nat × Nat × Nat) := [(8, 1, 0, 2229, 2230), (9, 1, 1, 2233, 2234), (3, 0, 3, 2237, 0), (2, 0, 3, 3010, 0), (72, 1, 1, 3000, 3001), (1, 1, 1, 2225, 2226), (5, 1, 3, 3014, 2), (6, 0, 1, 3138, 0), (36, 1, 2, 3146, 3147), (47, 1, 5, 3017, 3018), (34, 1, 2, 3126, 3127), (75, 1, 0, 3141, 3142), (16, 1, 2, 5152, 27), (50, 1, 2, 5139, 5140), (49, 1, 1, 4150, 4151), (69, 1, 1, 4141, 4142), (18, 1, 4, 5164, 28), (45, 1, 5, 3021, 3022), (20, 1, 2, 5173, 29), (21, 0, 3, 5176, 0), (22, 1, 3, 5180, 30), (24, 1, 1, 5194, 31), (25, 1, 1, 5201, 32), (247, 2, 0, 1050, 0), (7, 2, 3, 1197, 0), (250, 1, 0, 2087, 2088), (70, 2, 6, 4216, 0), (254, 1, 1, 3060, 3061), (10, 1, 1, 4052, 4053), (28, 1, 1, 4047, 4048), (11, 1, 1, 3134, 3135), (252, 1, 1, 3151, 3152), (71, 1, 0, 3178, 3179), (30, 1, 1, 3182, 3183), (33, 1, 2, 3130, 3131), (73, 1, 1, 3166, 3167), (74, 1, 1, 6014, 6015), (40, 0, 4, 4131, 0), (41, 0, 4, 4134, 0), (12, 2, 1, 1075, 0)]
def sCEt1 : List (Nat × Nat × Nat × Nat × Nat) := [(68, 2, 1, 1107, 0), (76, 2, 5, 3027, 0), (77, 1, 1, 3122, 3123), (43, 1, 2, 4145, 4146), (82, 1, 2, 3200, 3201), (81, 1, 3, 3204, 3205), (57, 1, 2, 3223, 8), (59, 1, 1, 3239, 10), (60, 1, 3, 4006, 11), (62, 1, 0, 4014, 13), (63, 1, 2, 4023, 14), (64, 1, 2, 4027, 15), (67, 1, 2, 4057, 18), (255, 1, 0, 3226, 3227), (58, 1, 1, 3232, 9), (80, 1, 3, 3208, 3209), (79, 1, 2, 3214, 3215), (61, 1, 2, 4010, 12), (13, 1, 1, 4017, 4018), (65, 1, 1, 4031, 16), (35, 1, 2, 4042, 4043), (66, 1, 1, 4036, 17), (46, 1, 5, 4061, 4062), (42, 2, 0, 1040, 0), (26, 2, 1, 1188, 0), (78, 2, 1, 2012, 0), (55, 2, 3, 2022, 0), (0, 2, 2, 2043, 0), (14, 2, 1, 2056, 0), (133, 1, 1, 2113, 0), (129, 0, 1, 2184, 0), (52, 1, 0, 2217, 2218), (4, 1, 1, 2221, 2222), (141, 1, 0, 3171, 6), (37, 1, 0, 3186, 3187), (140, 1, 1, 3191, 7), (132, 1, 1, 4085, 19), (127, 0, 3, 4089, 0), (131, 1, 1, 4116, 20), (137, 1, 1, 4124, 21)]
def sCEt2 : List (Nat × Nat × Nat × Nat × Nat) := [(126, 0, 2, 4182, 0), (44, 1, 3, 4187, 4188), (128, 0, 2, 4198, 0), (130, 1, 2, 4203, 22), (138, 1, 4, 4207, 23), (27, 1, 5, 4211, 4212), (139, 1, 3, 5088, 24), (32, 1, 2, 3174, 3175), (134, 1, 1, 5099, 25), (135, 1, 1, 5115, 26), (53, 1, 0, 5128, 5129), (31, 1, 1, 5143, 5144), (15, 1, 1, 5147, 5148), (17, 1, 2, 5157, 5158), (19, 1, 1, 5168, 5169), (54, 1, 0, 5183, 5184), (23, 1, 1, 5187, 5188), (136, 0, 1, 6000, 0), (38, 1, 2, 6010, 6011), (48, 1, 2, 6078, 6079), (39, 1, 2, 4127, 4128), (51, 1, 2, 4137, 4138), (56, 1, 1, 3194, 3195), (29, 1, 1, 4065, 4066), (145, 0, 3, 7043, 0), (152, 1, 2, 7081, 38), (155, 1, 2, 7108, 44), (157, 0, 3, 7143, 0), (151, 0, 1, 7096, 0), (158, 0, 3, 7148, 0), (153, 1, 2, 7077, 37), (159, 1, 3, 7140, 52), (160, 1, 2, 7152, 53), (163, 1, 5, 7089, 40), (162, 1, 6, 7085, 39), (164, 1, 7, 7100, 42), (167, 1, 2, 7104, 43), (161, 1, 2, 7136, 51), (169, 1, 2, 7156, 54), (156, 1, 1, 7120, 47)]
def sCEt3 : List (Nat × Nat × Nat × Nat × Nat) := [(170, 1, 3, 7160, 55), (171, 1, 1, 7164, 56), (174, 1, 2, 7168, 57), (175, 1, 4, 7180, 60), (172, 1, 1, 7172, 58), (165, 1, 6, 7093, 41), (168, 1, 2, 7176, 59), (166, 1, 2, 7112, 45), (173, 1, 1, 7132, 50), (154, 1, 1, 7184, 61), (177, 1, 0, 7116, 46), (176, 1, 1, 7128, 49), (180, 1, 3, 7221, 65), (185, 1, 3, 7213, 63), (183, 1, 3, 7217, 64), (146, 0, 1, 7040, 0), (144, 1, 1, 7047, 33), (188, 1, 3, 7067, 36), (189, 0, 2, 7070, 0), (190, 0, 1, 7073, 0), (179, 1, 0, 7059, 34), (191, 1, 1, 7063, 35), (178, 1, 0, 7124, 48), (147, 0, 1, 7195, 0), (148, 0, 1, 7202, 0), (184, 1, 1, 7209, 62), (182, 1, 1, 7225, 66), (200, 1, 6, 8020, 69), (202, 1, 1, 8024, 70), (150, 0, 2, 8008, 0), (201, 1, 4, 8012, 67), (203, 1, 7, 8016, 68), (207, 1, 1, 8040, 71), (149, 1, 1, 8048, 72), (210, 1, 1, 8056, 73), (216, 1, 3, 8080, 77), (214, 1, 4, 8084, 78), (217, 1, 2, 8092, 80), (181, 1, 1, 8068, 74), (213, 1, 1, 8072, 75)]
def sCEt4 : List (Nat × Nat × Nat × Nat × Nat) := [(215, 1, 2, 8076, 76), (218, 1, 1, 8088, 79), (236, 1, 1, 8164, 81), (245, 2, 0, 1056, 0), (246, 2, 0, 1053, 0), (257, 0, 3, 3076, 0), (248, 1, 1, 3073, 5), (256, 0, 2, 3155, 0), (251, 1, 1, 3161, 3162), (249, 1, 0, 3069, 4), (253, 1, 3, 3065, 3), (258, 0, 3, 3158, 0), (84, 1, 1, 2108, 2109), (85, 1, 1, 2206, 2207), (86, 1, 1, 2213, 2214), (87, 1, 2, 4072, 4073), (88, 1, 3, 4080, 4081), (89, 1, 2, 4111, 4112), (90, 1, 2, 4157, 4158), (91, 1, 1, 4164, 4165), (92, 1, 2, 4171, 4172), (93, 1, 3, 4178, 4179), (94, 1, 6, 4194, 4195), (95, 1, 5, 5069, 5070), (96, 1, 6, 5076, 5077), (97, 1, 5, 5083, 5084), (98, 1, 1, 5094, 5095), (99, 1, 1, 5110, 5111), (100, 1, 2, 5124, 5125), (101, 1, 1, 5135, 5136), (102, 1, 1, 5207, 5208), (104, 1, 1, 5214, 5215), (105, 1, 1, 5221, 5222), (106, 1, 1, 5228, 5229), (107, 1, 2, 5235, 5236), (108, 1, 2, 6006, 6007), (109, 1, 2, 6021, 6022), (110, 1, 2, 6029, 6030), (111, 1, 1, 6037, 6038), (112, 1, 1, 6045, 6046)]
def sCEt5 : List (Nat × Nat × Nat × Nat × Nat) := [(113, 1, 1, 6052, 6053), (115, 1, 2, 6059, 6060), (116, 1, 2, 6066, 6067), (117, 1, 2, 6074, 6075), (118, 1, 1, 6087, 6088), (119, 1, 1, 6094, 6095), (120, 1, 1, 6101, 6102), (121, 1, 1, 6108, 6109), (122, 1, 1, 6115, 6116), (123, 1, 1, 6122, 6123), (83, 2, 0, 1032, 0), (142, 2, 0, 6128, 0), (259, 0, 3, 2103, 0), (186, 1, 1, 7036, 7037), (143, 1, 0, 7032, 7033), (260, 0, 3, 2203, 0), (187, 1, 1, 7050, 7051), (261, 0, 3, 2210, 0), (192, 1, 1, 7054, 7055), (262, 0, 4, 4069, 0), (193, 1, 2, 7187, 7188), (263, 0, 4, 4076, 0), (194, 1, 3, 7191, 7192), (264, 0, 4, 4108, 0), (195, 1, 2, 7198, 7199), (265, 0, 4, 4154, 0), (196, 1, 2, 7228, 7229), (266, 0, 3, 4161, 0), (197, 1, 1, 7232, 7233), (267, 0, 4, 4168, 0), (198, 1, 2, 7236, 7237), (268, 0, 5, 4175, 0), (199, 1, 3, 8000, 8001), (269, 0, 8, 4191, 0), (204, 1, 6, 8004, 8005), (270, 0, 7, 5066, 0), (205, 1, 5, 8027, 8028), (271, 0, 8, 5073, 0), (206, 1, 6, 8031, 8032), (272, 0, 7, 5080, 0)]
def sCEt6 : List (Nat × Nat × Nat × Nat × Nat) := [(208, 1, 5, 8035, 8036), (273, 0, 3, 5091, 0), (209, 1, 1, 8043, 8044), (274, 0, 3, 5107, 0), (211, 1, 1, 8051, 8052), (275, 0, 4, 5121, 0), (212, 1, 2, 8059, 8060), (276, 0, 3, 5132, 0), (219, 1, 1, 8063, 8064), (277, 0, 3, 5204, 0), (220, 1, 1, 8095, 8096), (103, 1, 0, 2083, 2084), (221, 1, 0, 8099, 8100), (278, 0, 3, 5211, 0), (222, 1, 1, 8103, 8104), (279, 0, 3, 5218, 0), (223, 1, 1, 8107, 8108), (280, 0, 3, 5225, 0), (224, 1, 1, 8111, 8112), (281, 0, 4, 5232, 0), (225, 1, 2, 8115, 8116), (282, 0, 4, 6003, 0), (226, 1, 2, 8119, 8120), (283, 0, 4, 6018, 0), (227, 1, 2, 8123, 8124), (284, 0, 4, 6026, 0), (228, 1, 2, 8127, 8128), (285, 0, 3, 6034, 0), (229, 1, 1, 8131, 8132), (286, 0, 3, 6042, 0), (230, 1, 1, 8135, 8136), (287, 0, 3, 6049, 0), (231, 1, 1, 8139, 8140), (114, 1, 0, 2091, 2092), (232, 1, 0, 8143, 8144), (288, 0, 4, 6056, 0), (233, 1, 2, 8147, 8148), (289, 0, 4, 6063, 0), (234, 1, 2, 8151, 8152), (290, 0, 4, 6071, 0)]
def sCEt7 : List (Nat × Nat × Nat × Nat × Nat) := [(235, 1, 2, 8155, 8156), (291, 0, 3, 6084, 0), (237, 1, 1, 8159, 8160), (292, 0, 3, 6091, 0), (238, 1, 1, 8167, 8168), (293, 0, 3, 6098, 0), (239, 1, 1, 8171, 8172), (294, 0, 3, 6105, 0), (240, 1, 1, 8175, 8176), (295, 0, 3, 6112, 0), (241, 1, 1, 8179, 8180), (296, 0, 3, 6119, 0), (242, 1, 1, 8183, 8184), (124, 1, 0, 2095, 2096), (243, 1, 0, 8187, 8188), (125, 1, 0, 2099, 2100), (244, 1, 0, 8191, 8192)]
def sCEt : List (Nat × Nat × Nat × Nat × Nat) := sCEt0 ++ (sCEt1 ++ (sCEt2 ++ (sCEt3 ++ (sCEt4 ++ (sCEt5 ++ (sCEt6 ++ (sCEt7)))))))
def sINt : List (Nat × Nat) := [(11, 1001), (0, 1012), (1, 1009), (2, 1006), (3, 1013), (4, 1008), (5, 1002), (6, 1011), (7, 1007), (8, 1028), (9, 1021), (10, 1010), (19, 1000), (12, 1014), (13, 1003), (14, 1004), (15, 1005), (16, 1025), (17, 1022), (18, 1026)]
def sMWt : List (Nat × Nat × Nat × Nat × Nat × Nat) := [(0, 48, 7, 3003, 3004, 3005), (0, 54, 5, 3006, 3007, 3008), (2, 24, 5, 4020, 3007, 3008), (3, 52, 5, 5161, 3007, 3008), (3, 89, 6, 5190, 3079, 3080), (3, 96, 7, 5191, 3004, 3005), (3, 111, 8, 5196, 5197, 5198), (5, 107, 6, 4148, 3079, 3080), (6, 199, 7, 4033, 3004, 3005), (8, 45, 7, 3144, 3004, 3005), (10, 15, 5, 3217, 3007, 3008), (15, 79, 6, 3119, 3079, 3080), (17, 194, 6, 3078, 3079, 3080)]
def sMi0 : Nat := 1020
/-- a word at its place -/
def sTk (k : Nat) : List Cond := match k with
  | 0 => k2_sels lw_privs
  | 1 => tables_1_1
  | 2 => tables_1_2
  | 3 => tables_1_3
  | 4 => tables_1_4
  | 5 => tables_1_5
  | 6 => tables_1_6
  | 7 => tables_1_7
  | 8 => tables_1_8
  | _ => []
theorem sTk_in {k : Nat} {w : Cond} (h : w ∈ sTk k) : w ∈ lw_tbl := by
  unfold lw_tbl tables_1
  simp only [List.mem_append]
  unfold sTk at h
  split at h
  · exact Or.inl h
  · exact Or.inr (Or.inl h)
  · exact Or.inr (Or.inr (Or.inl h))
  · exact Or.inr (Or.inr (Or.inr (Or.inl h)))
  · exact Or.inr (Or.inr (Or.inr (Or.inr (Or.inl h))))
  · exact Or.inr (Or.inr (Or.inr (Or.inr (Or.inr (Or.inl h)))))
  · exact Or.inr (Or.inr (Or.inr (Or.inr (Or.inr (Or.inr (Or.inl h))))))
  · exact Or.inr (Or.inr (Or.inr (Or.inr (Or.inr (Or.inr (Or.inr (Or.inl h)))))))
  · exact Or.inr (Or.inr (Or.inr (Or.inr (Or.inr (Or.inr (Or.inr (Or.inr h)))))))
  · cases h
def sWg (p : Nat) (w : Cond) : Bool := decide ((sTk (p / 1000))[p % 1000]? = some w) && goodWord w
def sWx (p : Nat) (w : Cond) : Bool := decide ((sTk (p / 1000))[p % 1000]? = some w) && sWm w
theorem sWg_in {p : Nat} {w : Cond} (h : sWg p w = true) : w ∈ sGG := by
  unfold sWg at h
  rw [Bool.and_eq_true, decide_eq_true_eq] at h
  exact List.mem_filter.mpr ⟨sTk_in (List.mem_of_getElem? h.1), h.2⟩
theorem sWx_in {p : Nat} {w : Cond} (h : sWx p w = true) : w ∈ sGW := by
  unfold sWx at h
  rw [Bool.and_eq_true, decide_eq_true_eq] at h
  exact List.mem_filter.mpr ⟨sTk_in (List.mem_of_getElem? h.1), h.2⟩
def sFLc (e : Nat × Nat × Nat × Nat × Nat) : Bool := match sCl[e.2.2.1 / 64]? with
  | some q => Nat.blt (e.2.2.1 / 64) 14 && Nat.blt (e.2.2.1 % 64) q.2.2 && sWx e.2.2.2.2 (Cond.fieldLink (sOn e.1) e.2.1 (bif Nat.beq e.2.2.2.1 0 then (q.2.1 (e.2.2.1 % 64)).1 else "java/util/ArrayList") (q.2.1 (e.2.2.1 % 64)).2.1 (q.2.1 (e.2.2.1 % 64)).2.2.1) &&
    (Nat.beq e.2.2.2.1 0 || sWx sSamePos (Cond.sameField "java/util/ArrayList" (q.2.1 (e.2.2.1 % 64)).1 (q.2.1 (e.2.2.1 % 64)).2.1 (q.2.1 (e.2.2.1 % 64)).2.2.1))
  | none => false
theorem sFLt_ok : sFLt.all sFLc = true := by decide +kernel
noncomputable def sMLc (e : Nat × Nat × Nat × Nat) : Bool := sWg e.2.2.2 (Cond.methodLink (sOn e.1) e.2.1 (sY e.2.2.1))
noncomputable def sCEc (e : Nat × Nat × Nat × Nat × Nat) : Bool := decide ((parseMethodDescriptor (sY e.1).desc).map (fun d => d.parameters.length) = some e.2.2.1) &&
  (match e.2.1 with
    | 0 => sWg e.2.2.2.1 (Cond.static (sY e.1))
    | 1 => sWg e.2.2.2.1 (Cond.instanceMethod (sY e.1)) && sWg e.2.2.2.2 (Cond.selects (sY e.1).cls (sY e.1) (sY e.1)) && Nat.blt (sRk e.1) 14 && decide ((sHh e.1) = []) && (match sCl[sRk e.1]? with
      | some q => decide (q.1 = (sY e.1).cls)
      | none => false)
    | _ => sWg e.2.2.2.1 (Cond.instanceMethod (sY e.1)) && decide ((sY e.1).name = "<init>") && decide (sRt e.1 = none) && decide ((sHh e.1) = []))
def sINc (e : Nat × Nat) : Bool := sWg e.2 (Cond.initialized (sOn e.1)) && plainName (sOn e.1) && decide (sOn e.1 ≠ "java/lang/invoke/MethodHandle" ∧ sOn e.1 ≠ "java/lang/invoke/VarHandle")
theorem sINt_ok : sINt.all sINc = true := by decide +kernel
theorem sMLt0_ok : sMLt0.all sMLc = true := by decide +kernel
theorem sMLt1_ok : sMLt1.all sMLc = true := by decide +kernel
theorem sMLt2_ok : sMLt2.all sMLc = true := by decide +kernel
theorem sMLt3_ok : sMLt3.all sMLc = true := by decide +kernel
theorem sMLt4_ok : sMLt4.all sMLc = true := by decide +kernel
theorem sMLt5_ok : sMLt5.all sMLc = true := by decide +kernel
theorem sMLt6_ok : sMLt6.all sMLc = true := by decide +kernel
theorem sMLt7_ok : sMLt7.all sMLc = true := by decide +kernel
theorem sMLt8_ok : sMLt8.all sMLc = true := by decide +kernel
theorem sMLt_ok : sMLt.all sMLc = true := by
  unfold sMLt
  simp only [List.all_append, sMLt0_ok, sMLt1_ok, sMLt2_ok, sMLt3_ok, sMLt4_ok, sMLt5_ok, sMLt6_ok, sMLt7_ok, sMLt8_ok, Bool.and_self]
theorem sCEt0_ok : sCEt0.all sCEc = true := by decide +kernel
theorem sCEt1_ok : sCEt1.all sCEc = true := by decide +kernel
theorem sCEt2_ok : sCEt2.all sCEc = true := by decide +kernel
theorem sCEt3_ok : sCEt3.all sCEc = true := by decide +kernel
theorem sCEt4_ok : sCEt4.all sCEc = true := by decide +kernel
theorem sCEt5_ok : sCEt5.all sCEc = true := by decide +kernel
theorem sCEt6_ok : sCEt6.all sCEc = true := by decide +kernel
theorem sCEt7_ok : sCEt7.all sCEc = true := by decide +kernel
theorem sCEt_ok : sCEt.all sCEc = true := by
  unfold sCEt
  simp only [List.all_append, sCEt0_ok, sCEt1_ok, sCEt2_ok, sCEt3_ok, sCEt4_ok, sCEt5_ok, sCEt6_ok, sCEt7_ok, Bool.and_self]
set_option maxRecDepth 10000 in
theorem sCw8_at : (sTk 2)[231]? = some (sCw 8) := rfl
set_option maxRecDepth 10000 in
theorem sCw9_at : (sTk 2)[235]? = some (sCw 9) := rfl
set_option maxRecDepth 10000 in
theorem sCw3_at : (sTk 2)[238]? = some (sCw 3) := rfl
set_option maxRecDepth 10000 in
theorem sCw2_at : (sTk 3)[11]? = some (sCw 2) := rfl
set_option maxRecDepth 10000 in
theorem sCw72_at : (sTk 3)[2]? = some (sCw 72) := rfl
set_option maxRecDepth 10000 in
theorem sCw1_at : (sTk 2)[227]? = some (sCw 1) := rfl
set_option maxRecDepth 10000 in
theorem sCw5_at : (sTk 3)[15]? = some (sCw 5) := rfl
set_option maxRecDepth 10000 in
theorem sCw6_at : (sTk 3)[139]? = some (sCw 6) := rfl
set_option maxRecDepth 10000 in
theorem sCw36_at : (sTk 3)[148]? = some (sCw 36) := rfl
set_option maxRecDepth 10000 in
theorem sCw47_at : (sTk 3)[19]? = some (sCw 47) := rfl
set_option maxRecDepth 10000 in
theorem sCw34_at : (sTk 3)[128]? = some (sCw 34) := rfl
set_option maxRecDepth 10000 in
theorem sCw75_at : (sTk 3)[143]? = some (sCw 75) := rfl
set_option maxRecDepth 10000 in
theorem sCw16_at : (sTk 5)[153]? = some (sCw 16) := rfl
set_option maxRecDepth 10000 in
theorem sCw50_at : (sTk 5)[141]? = some (sCw 50) := rfl
set_option maxRecDepth 10000 in
theorem sCw49_at : (sTk 4)[152]? = some (sCw 49) := rfl
set_option maxRecDepth 10000 in
theorem sCw69_at : (sTk 4)[143]? = some (sCw 69) := rfl
set_option maxRecDepth 10000 in
theorem sCw18_at : (sTk 5)[165]? = some (sCw 18) := rfl
set_option maxRecDepth 10000 in
theorem sCw45_at : (sTk 3)[23]? = some (sCw 45) := rfl
set_option maxRecDepth 10000 in
theorem sCw20_at : (sTk 5)[174]? = some (sCw 20) := rfl
set_option maxRecDepth 10000 in
theorem sCw21_at : (sTk 5)[177]? = some (sCw 21) := rfl
set_option maxRecDepth 10000 in
theorem sCw22_at : (sTk 5)[181]? = some (sCw 22) := rfl
set_option maxRecDepth 10000 in
theorem sCw24_at : (sTk 5)[195]? = some (sCw 24) := rfl
set_option maxRecDepth 10000 in
theorem sCw25_at : (sTk 5)[202]? = some (sCw 25) := rfl
set_option maxRecDepth 10000 in
theorem sCw247_at : (sTk 1)[51]? = some (sCw 247) := rfl
set_option maxRecDepth 10000 in
theorem sCw7_at : (sTk 1)[198]? = some (sCw 7) := rfl
set_option maxRecDepth 10000 in
theorem sCw250_at : (sTk 2)[89]? = some (sCw 250) := rfl
set_option maxRecDepth 10000 in
theorem sCw70_at : (sTk 4)[217]? = some (sCw 70) := rfl
set_option maxRecDepth 10000 in
theorem sCw254_at : (sTk 3)[62]? = some (sCw 254) := rfl
set_option maxRecDepth 10000 in
theorem sCw10_at : (sTk 4)[54]? = some (sCw 10) := rfl
set_option maxRecDepth 10000 in
theorem sCw28_at : (sTk 4)[49]? = some (sCw 28) := rfl
set_option maxRecDepth 10000 in
theorem sCw11_at : (sTk 3)[136]? = some (sCw 11) := rfl
set_option maxRecDepth 10000 in
theorem sCw252_at : (sTk 3)[153]? = some (sCw 252) := rfl
set_option maxRecDepth 10000 in
theorem sCw71_at : (sTk 3)[180]? = some (sCw 71) := rfl
set_option maxRecDepth 10000 in
theorem sCw30_at : (sTk 3)[184]? = some (sCw 30) := rfl
set_option maxRecDepth 10000 in
theorem sCw33_at : (sTk 3)[132]? = some (sCw 33) := rfl
set_option maxRecDepth 10000 in
theorem sCw73_at : (sTk 3)[168]? = some (sCw 73) := rfl
set_option maxRecDepth 10000 in
theorem sCw74_at : (sTk 6)[16]? = some (sCw 74) := rfl
set_option maxRecDepth 10000 in
theorem sCw40_at : (sTk 4)[132]? = some (sCw 40) := rfl
set_option maxRecDepth 10000 in
theorem sCw41_at : (sTk 4)[135]? = some (sCw 41) := rfl
set_option maxRecDepth 10000 in
theorem sCw12_at : (sTk 1)[76]? = some (sCw 12) := rfl
set_option maxRecDepth 10000 in
theorem sCw68_at : (sTk 1)[108]? = some (sCw 68) := rfl
set_option maxRecDepth 10000 in
theorem sCw76_at : (sTk 3)[28]? = some (sCw 76) := rfl
set_option maxRecDepth 10000 in
theorem sCw77_at : (sTk 3)[124]? = some (sCw 77) := rfl
set_option maxRecDepth 10000 in
theorem sCw43_at : (sTk 4)[147]? = some (sCw 43) := rfl
set_option maxRecDepth 10000 in
theorem sCw82_at : (sTk 3)[202]? = some (sCw 82) := rfl
set_option maxRecDepth 10000 in
theorem sCw81_at : (sTk 3)[206]? = some (sCw 81) := rfl
set_option maxRecDepth 10000 in
theorem sCw57_at : (sTk 3)[224]? = some (sCw 57) := rfl
set_option maxRecDepth 10000 in
theorem sCw59_at : (sTk 4)[0]? = some (sCw 59) := rfl
set_option maxRecDepth 10000 in
theorem sCw60_at : (sTk 4)[7]? = some (sCw 60) := rfl
set_option maxRecDepth 10000 in
theorem sCw62_at : (sTk 4)[15]? = some (sCw 62) := rfl
set_option maxRecDepth 10000 in
theorem sCw63_at : (sTk 4)[24]? = some (sCw 63) := rfl
set_option maxRecDepth 10000 in
theorem sCw64_at : (sTk 4)[28]? = some (sCw 64) := rfl
set_option maxRecDepth 10000 in
theorem sCw67_at : (sTk 4)[58]? = some (sCw 67) := rfl
set_option maxRecDepth 10000 in
theorem sCw255_at : (sTk 3)[228]? = some (sCw 255) := rfl
set_option maxRecDepth 10000 in
theorem sCw58_at : (sTk 3)[233]? = some (sCw 58) := rfl
set_option maxRecDepth 10000 in
theorem sCw80_at : (sTk 3)[210]? = some (sCw 80) := rfl
set_option maxRecDepth 10000 in
theorem sCw79_at : (sTk 3)[216]? = some (sCw 79) := rfl
set_option maxRecDepth 10000 in
theorem sCw61_at : (sTk 4)[11]? = some (sCw 61) := rfl
set_option maxRecDepth 10000 in
theorem sCw13_at : (sTk 4)[19]? = some (sCw 13) := rfl
set_option maxRecDepth 10000 in
theorem sCw65_at : (sTk 4)[32]? = some (sCw 65) := rfl
set_option maxRecDepth 10000 in
theorem sCw35_at : (sTk 4)[44]? = some (sCw 35) := rfl
set_option maxRecDepth 10000 in
theorem sCw66_at : (sTk 4)[37]? = some (sCw 66) := rfl
set_option maxRecDepth 10000 in
theorem sCw46_at : (sTk 4)[63]? = some (sCw 46) := rfl
set_option maxRecDepth 10000 in
theorem sCw42_at : (sTk 1)[41]? = some (sCw 42) := rfl
set_option maxRecDepth 10000 in
theorem sCw26_at : (sTk 1)[189]? = some (sCw 26) := rfl
set_option maxRecDepth 10000 in
theorem sCw78_at : (sTk 2)[13]? = some (sCw 78) := rfl
set_option maxRecDepth 10000 in
theorem sCw55_at : (sTk 2)[23]? = some (sCw 55) := rfl
set_option maxRecDepth 10000 in
theorem sCw0_at : (sTk 2)[44]? = some (sCw 0) := rfl
set_option maxRecDepth 10000 in
theorem sCw14_at : (sTk 2)[57]? = some (sCw 14) := rfl
set_option maxRecDepth 10000 in
theorem sCw133_at : (sTk 2)[114]? = some (sCw 133) := rfl
set_option maxRecDepth 10000 in
theorem sCw129_at : (sTk 2)[185]? = some (sCw 129) := rfl
set_option maxRecDepth 10000 in
theorem sCw52_at : (sTk 2)[219]? = some (sCw 52) := rfl
set_option maxRecDepth 10000 in
theorem sCw4_at : (sTk 2)[223]? = some (sCw 4) := rfl
set_option maxRecDepth 10000 in
theorem sCw141_at : (sTk 3)[172]? = some (sCw 141) := rfl
set_option maxRecDepth 10000 in
theorem sCw37_at : (sTk 3)[188]? = some (sCw 37) := rfl
set_option maxRecDepth 10000 in
theorem sCw140_at : (sTk 3)[192]? = some (sCw 140) := rfl
set_option maxRecDepth 10000 in
theorem sCw132_at : (sTk 4)[86]? = some (sCw 132) := rfl
set_option maxRecDepth 10000 in
theorem sCw127_at : (sTk 4)[90]? = some (sCw 127) := rfl
set_option maxRecDepth 10000 in
theorem sCw131_at : (sTk 4)[117]? = some (sCw 131) := rfl
set_option maxRecDepth 10000 in
theorem sCw137_at : (sTk 4)[125]? = some (sCw 137) := rfl
set_option maxRecDepth 10000 in
theorem sCw126_at : (sTk 4)[183]? = some (sCw 126) := rfl
set_option maxRecDepth 10000 in
theorem sCw44_at : (sTk 4)[189]? = some (sCw 44) := rfl
set_option maxRecDepth 10000 in
theorem sCw128_at : (sTk 4)[199]? = some (sCw 128) := rfl
set_option maxRecDepth 10000 in
theorem sCw130_at : (sTk 4)[204]? = some (sCw 130) := rfl
set_option maxRecDepth 10000 in
theorem sCw138_at : (sTk 4)[208]? = some (sCw 138) := rfl
set_option maxRecDepth 10000 in
theorem sCw27_at : (sTk 4)[213]? = some (sCw 27) := rfl
set_option maxRecDepth 10000 in
theorem sCw139_at : (sTk 5)[89]? = some (sCw 139) := rfl
set_option maxRecDepth 10000 in
theorem sCw32_at : (sTk 3)[176]? = some (sCw 32) := rfl
set_option maxRecDepth 10000 in
theorem sCw134_at : (sTk 5)[100]? = some (sCw 134) := rfl
set_option maxRecDepth 10000 in
theorem sCw135_at : (sTk 5)[116]? = some (sCw 135) := rfl
set_option maxRecDepth 10000 in
theorem sCw53_at : (sTk 5)[130]? = some (sCw 53) := rfl
set_option maxRecDepth 10000 in
theorem sCw31_at : (sTk 5)[145]? = some (sCw 31) := rfl
set_option maxRecDepth 10000 in
theorem sCw15_at : (sTk 5)[149]? = some (sCw 15) := rfl
set_option maxRecDepth 10000 in
theorem sCw17_at : (sTk 5)[159]? = some (sCw 17) := rfl
set_option maxRecDepth 10000 in
theorem sCw19_at : (sTk 5)[170]? = some (sCw 19) := rfl
set_option maxRecDepth 10000 in
theorem sCw54_at : (sTk 5)[185]? = some (sCw 54) := rfl
set_option maxRecDepth 10000 in
theorem sCw23_at : (sTk 5)[189]? = some (sCw 23) := rfl
set_option maxRecDepth 10000 in
theorem sCw136_at : (sTk 6)[1]? = some (sCw 136) := rfl
set_option maxRecDepth 10000 in
theorem sCw38_at : (sTk 6)[12]? = some (sCw 38) := rfl
set_option maxRecDepth 10000 in
theorem sCw48_at : (sTk 6)[80]? = some (sCw 48) := rfl
set_option maxRecDepth 10000 in
theorem sCw39_at : (sTk 4)[129]? = some (sCw 39) := rfl
set_option maxRecDepth 10000 in
theorem sCw51_at : (sTk 4)[139]? = some (sCw 51) := rfl
set_option maxRecDepth 10000 in
theorem sCw56_at : (sTk 3)[196]? = some (sCw 56) := rfl
set_option maxRecDepth 10000 in
theorem sCw29_at : (sTk 4)[67]? = some (sCw 29) := rfl
set_option maxRecDepth 10000 in
theorem sCw145_at : (sTk 7)[44]? = some (sCw 145) := rfl
set_option maxRecDepth 10000 in
theorem sCw152_at : (sTk 7)[82]? = some (sCw 152) := rfl
set_option maxRecDepth 10000 in
theorem sCw155_at : (sTk 7)[109]? = some (sCw 155) := rfl
set_option maxRecDepth 10000 in
theorem sCw157_at : (sTk 7)[144]? = some (sCw 157) := rfl
set_option maxRecDepth 10000 in
theorem sCw151_at : (sTk 7)[97]? = some (sCw 151) := rfl
set_option maxRecDepth 10000 in
theorem sCw158_at : (sTk 7)[149]? = some (sCw 158) := rfl
set_option maxRecDepth 10000 in
theorem sCw153_at : (sTk 7)[78]? = some (sCw 153) := rfl
set_option maxRecDepth 10000 in
theorem sCw159_at : (sTk 7)[141]? = some (sCw 159) := rfl
set_option maxRecDepth 10000 in
theorem sCw160_at : (sTk 7)[153]? = some (sCw 160) := rfl
set_option maxRecDepth 10000 in
theorem sCw163_at : (sTk 7)[90]? = some (sCw 163) := rfl
set_option maxRecDepth 10000 in
theorem sCw162_at : (sTk 7)[86]? = some (sCw 162) := rfl
set_option maxRecDepth 10000 in
theorem sCw164_at : (sTk 7)[101]? = some (sCw 164) := rfl
set_option maxRecDepth 10000 in
theorem sCw167_at : (sTk 7)[105]? = some (sCw 167) := rfl
set_option maxRecDepth 10000 in
theorem sCw161_at : (sTk 7)[137]? = some (sCw 161) := rfl
set_option maxRecDepth 10000 in
theorem sCw169_at : (sTk 7)[157]? = some (sCw 169) := rfl
set_option maxRecDepth 10000 in
theorem sCw156_at : (sTk 7)[121]? = some (sCw 156) := rfl
set_option maxRecDepth 10000 in
theorem sCw170_at : (sTk 7)[161]? = some (sCw 170) := rfl
set_option maxRecDepth 10000 in
theorem sCw171_at : (sTk 7)[165]? = some (sCw 171) := rfl
set_option maxRecDepth 10000 in
theorem sCw174_at : (sTk 7)[169]? = some (sCw 174) := rfl
set_option maxRecDepth 10000 in
theorem sCw175_at : (sTk 7)[181]? = some (sCw 175) := rfl
set_option maxRecDepth 10000 in
theorem sCw172_at : (sTk 7)[173]? = some (sCw 172) := rfl
set_option maxRecDepth 10000 in
theorem sCw165_at : (sTk 7)[94]? = some (sCw 165) := rfl
set_option maxRecDepth 10000 in
theorem sCw168_at : (sTk 7)[177]? = some (sCw 168) := rfl
set_option maxRecDepth 10000 in
theorem sCw166_at : (sTk 7)[113]? = some (sCw 166) := rfl
set_option maxRecDepth 10000 in
theorem sCw173_at : (sTk 7)[133]? = some (sCw 173) := rfl
set_option maxRecDepth 10000 in
theorem sCw154_at : (sTk 7)[185]? = some (sCw 154) := rfl
set_option maxRecDepth 10000 in
theorem sCw177_at : (sTk 7)[117]? = some (sCw 177) := rfl
set_option maxRecDepth 10000 in
theorem sCw176_at : (sTk 7)[129]? = some (sCw 176) := rfl
set_option maxRecDepth 10000 in
theorem sCw180_at : (sTk 7)[222]? = some (sCw 180) := rfl
set_option maxRecDepth 10000 in
theorem sCw185_at : (sTk 7)[214]? = some (sCw 185) := rfl
set_option maxRecDepth 10000 in
theorem sCw183_at : (sTk 7)[218]? = some (sCw 183) := rfl
set_option maxRecDepth 10000 in
theorem sCw146_at : (sTk 7)[41]? = some (sCw 146) := rfl
set_option maxRecDepth 10000 in
theorem sCw144_at : (sTk 7)[48]? = some (sCw 144) := rfl
set_option maxRecDepth 10000 in
theorem sCw188_at : (sTk 7)[68]? = some (sCw 188) := rfl
set_option maxRecDepth 10000 in
theorem sCw189_at : (sTk 7)[71]? = some (sCw 189) := rfl
set_option maxRecDepth 10000 in
theorem sCw190_at : (sTk 7)[74]? = some (sCw 190) := rfl
set_option maxRecDepth 10000 in
theorem sCw179_at : (sTk 7)[60]? = some (sCw 179) := rfl
set_option maxRecDepth 10000 in
theorem sCw191_at : (sTk 7)[64]? = some (sCw 191) := rfl
set_option maxRecDepth 10000 in
theorem sCw178_at : (sTk 7)[125]? = some (sCw 178) := rfl
set_option maxRecDepth 10000 in
theorem sCw147_at : (sTk 7)[196]? = some (sCw 147) := rfl
set_option maxRecDepth 10000 in
theorem sCw148_at : (sTk 7)[203]? = some (sCw 148) := rfl
set_option maxRecDepth 10000 in
theorem sCw184_at : (sTk 7)[210]? = some (sCw 184) := rfl
set_option maxRecDepth 10000 in
theorem sCw182_at : (sTk 7)[226]? = some (sCw 182) := rfl
set_option maxRecDepth 10000 in
theorem sCw200_at : (sTk 8)[21]? = some (sCw 200) := rfl
set_option maxRecDepth 10000 in
theorem sCw202_at : (sTk 8)[25]? = some (sCw 202) := rfl
set_option maxRecDepth 10000 in
theorem sCw150_at : (sTk 8)[9]? = some (sCw 150) := rfl
set_option maxRecDepth 10000 in
theorem sCw201_at : (sTk 8)[13]? = some (sCw 201) := rfl
set_option maxRecDepth 10000 in
theorem sCw203_at : (sTk 8)[17]? = some (sCw 203) := rfl
set_option maxRecDepth 10000 in
theorem sCw207_at : (sTk 8)[41]? = some (sCw 207) := rfl
set_option maxRecDepth 10000 in
theorem sCw149_at : (sTk 8)[49]? = some (sCw 149) := rfl
set_option maxRecDepth 10000 in
theorem sCw210_at : (sTk 8)[57]? = some (sCw 210) := rfl
set_option maxRecDepth 10000 in
theorem sCw216_at : (sTk 8)[81]? = some (sCw 216) := rfl
set_option maxRecDepth 10000 in
theorem sCw214_at : (sTk 8)[85]? = some (sCw 214) := rfl
set_option maxRecDepth 10000 in
theorem sCw217_at : (sTk 8)[93]? = some (sCw 217) := rfl
set_option maxRecDepth 10000 in
theorem sCw181_at : (sTk 8)[69]? = some (sCw 181) := rfl
set_option maxRecDepth 10000 in
theorem sCw213_at : (sTk 8)[73]? = some (sCw 213) := rfl
set_option maxRecDepth 10000 in
theorem sCw215_at : (sTk 8)[77]? = some (sCw 215) := rfl
set_option maxRecDepth 10000 in
theorem sCw218_at : (sTk 8)[89]? = some (sCw 218) := rfl
set_option maxRecDepth 10000 in
theorem sCw236_at : (sTk 8)[165]? = some (sCw 236) := rfl
set_option maxRecDepth 10000 in
theorem sCw245_at : (sTk 1)[57]? = some (sCw 245) := rfl
set_option maxRecDepth 10000 in
theorem sCw246_at : (sTk 1)[54]? = some (sCw 246) := rfl
set_option maxRecDepth 10000 in
theorem sCw257_at : (sTk 3)[77]? = some (sCw 257) := rfl
set_option maxRecDepth 10000 in
theorem sCw248_at : (sTk 3)[74]? = some (sCw 248) := rfl
set_option maxRecDepth 10000 in
theorem sCw256_at : (sTk 3)[156]? = some (sCw 256) := rfl
set_option maxRecDepth 10000 in
theorem sCw251_at : (sTk 3)[163]? = some (sCw 251) := rfl
set_option maxRecDepth 10000 in
theorem sCw249_at : (sTk 3)[70]? = some (sCw 249) := rfl
set_option maxRecDepth 10000 in
theorem sCw253_at : (sTk 3)[66]? = some (sCw 253) := rfl
set_option maxRecDepth 10000 in
theorem sCw258_at : (sTk 3)[159]? = some (sCw 258) := rfl
set_option maxRecDepth 10000 in
theorem sCw84_at : (sTk 2)[110]? = some (sCw 84) := rfl
set_option maxRecDepth 10000 in
theorem sCw85_at : (sTk 2)[208]? = some (sCw 85) := rfl
set_option maxRecDepth 10000 in
theorem sCw86_at : (sTk 2)[215]? = some (sCw 86) := rfl
set_option maxRecDepth 10000 in
theorem sCw87_at : (sTk 4)[74]? = some (sCw 87) := rfl
set_option maxRecDepth 10000 in
theorem sCw88_at : (sTk 4)[82]? = some (sCw 88) := rfl
set_option maxRecDepth 10000 in
theorem sCw89_at : (sTk 4)[113]? = some (sCw 89) := rfl
set_option maxRecDepth 10000 in
theorem sCw90_at : (sTk 4)[159]? = some (sCw 90) := rfl
set_option maxRecDepth 10000 in
theorem sCw91_at : (sTk 4)[166]? = some (sCw 91) := rfl
set_option maxRecDepth 10000 in
theorem sCw92_at : (sTk 4)[173]? = some (sCw 92) := rfl
set_option maxRecDepth 10000 in
theorem sCw93_at : (sTk 4)[180]? = some (sCw 93) := rfl
set_option maxRecDepth 10000 in
theorem sCw94_at : (sTk 4)[196]? = some (sCw 94) := rfl
set_option maxRecDepth 10000 in
theorem sCw95_at : (sTk 5)[71]? = some (sCw 95) := rfl
set_option maxRecDepth 10000 in
theorem sCw96_at : (sTk 5)[78]? = some (sCw 96) := rfl
set_option maxRecDepth 10000 in
theorem sCw97_at : (sTk 5)[85]? = some (sCw 97) := rfl
set_option maxRecDepth 10000 in
theorem sCw98_at : (sTk 5)[96]? = some (sCw 98) := rfl
set_option maxRecDepth 10000 in
theorem sCw99_at : (sTk 5)[112]? = some (sCw 99) := rfl
set_option maxRecDepth 10000 in
theorem sCw100_at : (sTk 5)[126]? = some (sCw 100) := rfl
set_option maxRecDepth 10000 in
theorem sCw101_at : (sTk 5)[137]? = some (sCw 101) := rfl
set_option maxRecDepth 10000 in
theorem sCw102_at : (sTk 5)[209]? = some (sCw 102) := rfl
set_option maxRecDepth 10000 in
theorem sCw104_at : (sTk 5)[216]? = some (sCw 104) := rfl
set_option maxRecDepth 10000 in
theorem sCw105_at : (sTk 5)[223]? = some (sCw 105) := rfl
set_option maxRecDepth 10000 in
theorem sCw106_at : (sTk 5)[230]? = some (sCw 106) := rfl
set_option maxRecDepth 10000 in
theorem sCw107_at : (sTk 5)[237]? = some (sCw 107) := rfl
set_option maxRecDepth 10000 in
theorem sCw108_at : (sTk 6)[8]? = some (sCw 108) := rfl
set_option maxRecDepth 10000 in
theorem sCw109_at : (sTk 6)[23]? = some (sCw 109) := rfl
set_option maxRecDepth 10000 in
theorem sCw110_at : (sTk 6)[31]? = some (sCw 110) := rfl
set_option maxRecDepth 10000 in
theorem sCw111_at : (sTk 6)[39]? = some (sCw 111) := rfl
set_option maxRecDepth 10000 in
theorem sCw112_at : (sTk 6)[47]? = some (sCw 112) := rfl
set_option maxRecDepth 10000 in
theorem sCw113_at : (sTk 6)[54]? = some (sCw 113) := rfl
set_option maxRecDepth 10000 in
theorem sCw115_at : (sTk 6)[61]? = some (sCw 115) := rfl
set_option maxRecDepth 10000 in
theorem sCw116_at : (sTk 6)[68]? = some (sCw 116) := rfl
set_option maxRecDepth 10000 in
theorem sCw117_at : (sTk 6)[76]? = some (sCw 117) := rfl
set_option maxRecDepth 10000 in
theorem sCw118_at : (sTk 6)[89]? = some (sCw 118) := rfl
set_option maxRecDepth 10000 in
theorem sCw119_at : (sTk 6)[96]? = some (sCw 119) := rfl
set_option maxRecDepth 10000 in
theorem sCw120_at : (sTk 6)[103]? = some (sCw 120) := rfl
set_option maxRecDepth 10000 in
theorem sCw121_at : (sTk 6)[110]? = some (sCw 121) := rfl
set_option maxRecDepth 10000 in
theorem sCw122_at : (sTk 6)[117]? = some (sCw 122) := rfl
set_option maxRecDepth 10000 in
theorem sCw123_at : (sTk 6)[124]? = some (sCw 123) := rfl
set_option maxRecDepth 10000 in
theorem sCw83_at : (sTk 1)[33]? = some (sCw 83) := rfl
set_option maxRecDepth 10000 in
theorem sCw142_at : (sTk 6)[129]? = some (sCw 142) := rfl
set_option maxRecDepth 10000 in
theorem sCw259_at : (sTk 2)[104]? = some (sCw 259) := rfl
set_option maxRecDepth 10000 in
theorem sCw186_at : (sTk 7)[38]? = some (sCw 186) := rfl
set_option maxRecDepth 10000 in
theorem sCw143_at : (sTk 7)[34]? = some (sCw 143) := rfl
set_option maxRecDepth 10000 in
theorem sCw260_at : (sTk 2)[204]? = some (sCw 260) := rfl
set_option maxRecDepth 10000 in
theorem sCw187_at : (sTk 7)[52]? = some (sCw 187) := rfl
set_option maxRecDepth 10000 in
theorem sCw261_at : (sTk 2)[211]? = some (sCw 261) := rfl
set_option maxRecDepth 10000 in
theorem sCw192_at : (sTk 7)[56]? = some (sCw 192) := rfl
set_option maxRecDepth 10000 in
theorem sCw262_at : (sTk 4)[70]? = some (sCw 262) := rfl
set_option maxRecDepth 10000 in
theorem sCw193_at : (sTk 7)[189]? = some (sCw 193) := rfl
set_option maxRecDepth 10000 in
theorem sCw263_at : (sTk 4)[77]? = some (sCw 263) := rfl
set_option maxRecDepth 10000 in
theorem sCw194_at : (sTk 7)[193]? = some (sCw 194) := rfl
set_option maxRecDepth 10000 in
theorem sCw264_at : (sTk 4)[109]? = some (sCw 264) := rfl
set_option maxRecDepth 10000 in
theorem sCw195_at : (sTk 7)[200]? = some (sCw 195) := rfl
set_option maxRecDepth 10000 in
theorem sCw265_at : (sTk 4)[155]? = some (sCw 265) := rfl
set_option maxRecDepth 10000 in
theorem sCw196_at : (sTk 7)[230]? = some (sCw 196) := rfl
set_option maxRecDepth 10000 in
theorem sCw266_at : (sTk 4)[162]? = some (sCw 266) := rfl
set_option maxRecDepth 10000 in
theorem sCw197_at : (sTk 7)[234]? = some (sCw 197) := rfl
set_option maxRecDepth 10000 in
theorem sCw267_at : (sTk 4)[169]? = some (sCw 267) := rfl
set_option maxRecDepth 10000 in
theorem sCw198_at : (sTk 7)[238]? = some (sCw 198) := rfl
set_option maxRecDepth 10000 in
theorem sCw268_at : (sTk 4)[176]? = some (sCw 268) := rfl
set_option maxRecDepth 10000 in
theorem sCw199_at : (sTk 8)[2]? = some (sCw 199) := rfl
set_option maxRecDepth 10000 in
theorem sCw269_at : (sTk 4)[192]? = some (sCw 269) := rfl
set_option maxRecDepth 10000 in
theorem sCw204_at : (sTk 8)[6]? = some (sCw 204) := rfl
set_option maxRecDepth 10000 in
theorem sCw270_at : (sTk 5)[67]? = some (sCw 270) := rfl
set_option maxRecDepth 10000 in
theorem sCw205_at : (sTk 8)[29]? = some (sCw 205) := rfl
set_option maxRecDepth 10000 in
theorem sCw271_at : (sTk 5)[74]? = some (sCw 271) := rfl
set_option maxRecDepth 10000 in
theorem sCw206_at : (sTk 8)[33]? = some (sCw 206) := rfl
set_option maxRecDepth 10000 in
theorem sCw272_at : (sTk 5)[81]? = some (sCw 272) := rfl
set_option maxRecDepth 10000 in
theorem sCw208_at : (sTk 8)[37]? = some (sCw 208) := rfl
set_option maxRecDepth 10000 in
theorem sCw273_at : (sTk 5)[92]? = some (sCw 273) := rfl
set_option maxRecDepth 10000 in
theorem sCw209_at : (sTk 8)[45]? = some (sCw 209) := rfl
set_option maxRecDepth 10000 in
theorem sCw274_at : (sTk 5)[108]? = some (sCw 274) := rfl
set_option maxRecDepth 10000 in
theorem sCw211_at : (sTk 8)[53]? = some (sCw 211) := rfl
set_option maxRecDepth 10000 in
theorem sCw275_at : (sTk 5)[122]? = some (sCw 275) := rfl
set_option maxRecDepth 10000 in
theorem sCw212_at : (sTk 8)[61]? = some (sCw 212) := rfl
set_option maxRecDepth 10000 in
theorem sCw276_at : (sTk 5)[133]? = some (sCw 276) := rfl
set_option maxRecDepth 10000 in
theorem sCw219_at : (sTk 8)[65]? = some (sCw 219) := rfl
set_option maxRecDepth 10000 in
theorem sCw277_at : (sTk 5)[205]? = some (sCw 277) := rfl
set_option maxRecDepth 10000 in
theorem sCw220_at : (sTk 8)[97]? = some (sCw 220) := rfl
set_option maxRecDepth 10000 in
theorem sCw103_at : (sTk 2)[85]? = some (sCw 103) := rfl
set_option maxRecDepth 10000 in
theorem sCw221_at : (sTk 8)[101]? = some (sCw 221) := rfl
set_option maxRecDepth 10000 in
theorem sCw278_at : (sTk 5)[212]? = some (sCw 278) := rfl
set_option maxRecDepth 10000 in
theorem sCw222_at : (sTk 8)[105]? = some (sCw 222) := rfl
set_option maxRecDepth 10000 in
theorem sCw279_at : (sTk 5)[219]? = some (sCw 279) := rfl
set_option maxRecDepth 10000 in
theorem sCw223_at : (sTk 8)[109]? = some (sCw 223) := rfl
set_option maxRecDepth 10000 in
theorem sCw280_at : (sTk 5)[226]? = some (sCw 280) := rfl
set_option maxRecDepth 10000 in
theorem sCw224_at : (sTk 8)[113]? = some (sCw 224) := rfl
set_option maxRecDepth 10000 in
theorem sCw281_at : (sTk 5)[233]? = some (sCw 281) := rfl
set_option maxRecDepth 10000 in
theorem sCw225_at : (sTk 8)[117]? = some (sCw 225) := rfl
set_option maxRecDepth 10000 in
theorem sCw282_at : (sTk 6)[4]? = some (sCw 282) := rfl
set_option maxRecDepth 10000 in
theorem sCw226_at : (sTk 8)[121]? = some (sCw 226) := rfl
set_option maxRecDepth 10000 in
theorem sCw283_at : (sTk 6)[19]? = some (sCw 283) := rfl
set_option maxRecDepth 10000 in
theorem sCw227_at : (sTk 8)[125]? = some (sCw 227) := rfl
set_option maxRecDepth 10000 in
theorem sCw284_at : (sTk 6)[27]? = some (sCw 284) := rfl
set_option maxRecDepth 10000 in
theorem sCw228_at : (sTk 8)[129]? = some (sCw 228) := rfl
set_option maxRecDepth 10000 in
theorem sCw285_at : (sTk 6)[35]? = some (sCw 285) := rfl
set_option maxRecDepth 10000 in
theorem sCw229_at : (sTk 8)[133]? = some (sCw 229) := rfl
set_option maxRecDepth 10000 in
theorem sCw286_at : (sTk 6)[43]? = some (sCw 286) := rfl
set_option maxRecDepth 10000 in
theorem sCw230_at : (sTk 8)[137]? = some (sCw 230) := rfl
set_option maxRecDepth 10000 in
theorem sCw287_at : (sTk 6)[50]? = some (sCw 287) := rfl
set_option maxRecDepth 10000 in
theorem sCw231_at : (sTk 8)[141]? = some (sCw 231) := rfl
set_option maxRecDepth 10000 in
theorem sCw114_at : (sTk 2)[93]? = some (sCw 114) := rfl
set_option maxRecDepth 10000 in
theorem sCw232_at : (sTk 8)[145]? = some (sCw 232) := rfl
set_option maxRecDepth 10000 in
theorem sCw288_at : (sTk 6)[57]? = some (sCw 288) := rfl
set_option maxRecDepth 10000 in
theorem sCw233_at : (sTk 8)[149]? = some (sCw 233) := rfl
set_option maxRecDepth 10000 in
theorem sCw289_at : (sTk 6)[64]? = some (sCw 289) := rfl
set_option maxRecDepth 10000 in
theorem sCw234_at : (sTk 8)[153]? = some (sCw 234) := rfl
set_option maxRecDepth 10000 in
theorem sCw290_at : (sTk 6)[72]? = some (sCw 290) := rfl
set_option maxRecDepth 10000 in
theorem sCw235_at : (sTk 8)[157]? = some (sCw 235) := rfl
set_option maxRecDepth 10000 in
theorem sCw291_at : (sTk 6)[85]? = some (sCw 291) := rfl
set_option maxRecDepth 10000 in
theorem sCw237_at : (sTk 8)[161]? = some (sCw 237) := rfl
set_option maxRecDepth 10000 in
theorem sCw292_at : (sTk 6)[92]? = some (sCw 292) := rfl
set_option maxRecDepth 10000 in
theorem sCw238_at : (sTk 8)[169]? = some (sCw 238) := rfl
set_option maxRecDepth 10000 in
theorem sCw293_at : (sTk 6)[99]? = some (sCw 293) := rfl
set_option maxRecDepth 10000 in
theorem sCw239_at : (sTk 8)[173]? = some (sCw 239) := rfl
set_option maxRecDepth 10000 in
theorem sCw294_at : (sTk 6)[106]? = some (sCw 294) := rfl
set_option maxRecDepth 10000 in
theorem sCw240_at : (sTk 8)[177]? = some (sCw 240) := rfl
set_option maxRecDepth 10000 in
theorem sCw295_at : (sTk 6)[113]? = some (sCw 295) := rfl
set_option maxRecDepth 10000 in
theorem sCw241_at : (sTk 8)[181]? = some (sCw 241) := rfl
set_option maxRecDepth 10000 in
theorem sCw296_at : (sTk 6)[120]? = some (sCw 296) := rfl
set_option maxRecDepth 10000 in
theorem sCw242_at : (sTk 8)[185]? = some (sCw 242) := rfl
set_option maxRecDepth 10000 in
theorem sCw124_at : (sTk 2)[97]? = some (sCw 124) := rfl
set_option maxRecDepth 10000 in
theorem sCw243_at : (sTk 8)[189]? = some (sCw 243) := rfl
set_option maxRecDepth 10000 in
theorem sCw125_at : (sTk 2)[101]? = some (sCw 125) := rfl
set_option maxRecDepth 10000 in
theorem sCw244_at : (sTk 8)[193]? = some (sCw 244) := rfl
theorem sOw_ok : ∀ i, i < sNm → (sY i).cls = sOn (sOw i) := by decide +kernel
def sCKc (e : Nat × Nat × Nat × Nat) : Bool := match sCl[e.2.2.1]? with
  | some q => Nat.blt e.2.2.1 14 && sWx e.2.2.2 (Cond.classLink (sOn e.1) e.2.1 q.1)
  | none => false
theorem sNKt_ok : sNKt.all sCKc = true := by decide +kernel
theorem sCKt_ok : sCKt.all sCKc = true := by decide +kernel
def sAKc (e : Nat × Nat × Nat × Nat) : Bool := match sAt e.2.2.1 with
  | .object C => Nat.ble 24 e.2.2.1 && Nat.blt e.2.2.1 28 && sWx e.2.2.2 (Cond.classLink (sOn e.1) e.2.1 C) && sAoP.any (fun z => Nat.beq z.1 e.2.2.1 && sWx z.2 (Cond.arrayOver (.object C)))
  | _ => false
theorem sAKt_ok : sAKt.all sAKc = true := by decide +kernel
theorem sKTt_ok : sKTt.all (fun e => sWx e.2.2.2 (Cond.constant (sOn e.1) e.2.1 e.2.2.1)) = true := by decide +kernel
theorem sOIt_ok : sOIt.all (fun e => sWx e.2.2 (Cond.methodLink (sOn e.1) e.2.1 Lib.objectInit)) = true := by decide +kernel
theorem sOIp_ok : (sWx sOIp.1 (Cond.instanceMethod Lib.objectInit) && sWx sOIp.2 (Cond.code Lib.objectInit ⟨#[0xb1]⟩ 1 none)) = true := by decide +kernel
theorem sArP_ok : sArP.all (fun e => sWx e.2 (Cond.arrayClass (sAt e.1))) = true := by decide +kernel
def sGSc (e : Nat × Nat × Nat × Nat × Nat × Nat) : Bool := decide ((e.2.2.1 = 27 ∧ e.2.2.2.1 = 0) ∨ (e.2.2.1 = 28 ∧ e.2.2.2.1 < 2)) && (bif Nat.beq e.2.2.2.2.1 1 then sWx e.2.2.2.2.2 (Cond.fieldLinkNest (sOn e.1) e.2.1 (sS3 e.2.2.1 e.2.2.2.1).1 (sS3 e.2.2.1 e.2.2.2.1).2.1 (sS3 e.2.2.1 e.2.2.2.1).2.2 "BookExchange") else sWx e.2.2.2.2.2 (Cond.fieldLink (sOn e.1) e.2.1 (sS3 e.2.2.1 e.2.2.2.1).1 (sS3 e.2.2.1 e.2.2.2.1).2.1 (sS3 e.2.2.1 e.2.2.2.1).2.2))
theorem sGSt_ok : sGSt.all sGSc = true := by decide +kernel
def sMWc (e : Nat × Nat × Nat × Nat × Nat × Nat) : Bool := match e.2.2.1 with
  | 5 => sWx e.2.2.2.1 (Cond.methodLink (sOn e.1) e.2.1 Lib.Math.abs.name) && sWx e.2.2.2.2.1 (Cond.static Lib.Math.abs.name) && sWx e.2.2.2.2.2 (Cond.code Lib.Math.abs.name Lib.Math.abs.code 1 (some .int))
  | 6 => sWx e.2.2.2.1 (Cond.methodLink (sOn e.1) e.2.1 Lib.Math.max.name) && sWx e.2.2.2.2.1 (Cond.static Lib.Math.max.name) && sWx e.2.2.2.2.2 (Cond.code Lib.Math.max.name Lib.Math.max.code 2 (some .int))
  | 7 => sWx e.2.2.2.1 (Cond.methodLink (sOn e.1) e.2.1 Lib.Math.min.name) && sWx e.2.2.2.2.1 (Cond.static Lib.Math.min.name) && sWx e.2.2.2.2.2 (Cond.code Lib.Math.min.name Lib.Math.min.code 2 (some .int))
  | 8 => sWx e.2.2.2.1 (Cond.methodLink (sOn e.1) e.2.1 Lib.MathLoose.min_long.x) && sWx e.2.2.2.2.1 (Cond.static Lib.MathLoose.min_long.x) && sWx e.2.2.2.2.2 (Cond.code Lib.MathLoose.min_long.x Lib.MathLoose.min_long.code 4 (some .long))
  | _ => false
theorem sMWt_ok : sMWt.all sMWc = true := by decide +kernel
theorem sMi0_ok : sWx sMi0 (Cond.initialized "java/lang/Math") = true := by decide +kernel
