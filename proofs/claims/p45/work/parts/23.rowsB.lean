theorem sR140_0 : (List.range 66).all (fun q => sRowB 140 (0 + q)) = true := by decide +kernel
theorem sR140 : ∀ pc, pc < sLen 140 → sRowB 140 pc = true := by
  intro pc h
  have hl : sLen 140 = 66 := by decide +kernel
  rw [hl] at h
  have := List.all_eq_true.mp sR140_0 (pc - 0) (List.mem_range.mpr (by omega))
  rwa [show 0 + (pc - 0) = pc by omega] at this
theorem sR141_0 : (List.range 61).all (fun q => sRowB 141 (0 + q)) = true := by decide +kernel
theorem sR141 : ∀ pc, pc < sLen 141 → sRowB 141 pc = true := by
  intro pc h
  have hl : sLen 141 = 61 := by decide +kernel
  rw [hl] at h
  have := List.all_eq_true.mp sR141_0 (pc - 0) (List.mem_range.mpr (by omega))
  rwa [show 0 + (pc - 0) = pc by omega] at this
theorem sR142 : ∀ pc, pc < sLen 142 → sRowB 142 pc = true := by
  intro pc h
  have hl : sLen 142 = 0 := by decide +kernel
  rw [hl] at h
  exact absurd h (Nat.not_lt_zero _)
theorem sR143 : ∀ pc, pc < sLen 143 → sRowB 143 pc = true := by
  intro pc h
  have hl : sLen 143 = 0 := by decide +kernel
  rw [hl] at h
  exact absurd h (Nat.not_lt_zero _)
theorem sR144 : ∀ pc, pc < sLen 144 → sRowB 144 pc = true := by
  intro pc h
  have hl : sLen 144 = 0 := by decide +kernel
  rw [hl] at h
  exact absurd h (Nat.not_lt_zero _)
theorem sR145 : ∀ pc, pc < sLen 145 → sRowB 145 pc = true := by
  intro pc h
  have hl : sLen 145 = 0 := by decide +kernel
  rw [hl] at h
  exact absurd h (Nat.not_lt_zero _)
theorem sR146 : ∀ pc, pc < sLen 146 → sRowB 146 pc = true := by
  intro pc h
  have hl : sLen 146 = 0 := by decide +kernel
  rw [hl] at h
  exact absurd h (Nat.not_lt_zero _)
theorem sR147 : ∀ pc, pc < sLen 147 → sRowB 147 pc = true := by
  intro pc h
  have hl : sLen 147 = 0 := by decide +kernel
  rw [hl] at h
  exact absurd h (Nat.not_lt_zero _)
theorem sR148 : ∀ pc, pc < sLen 148 → sRowB 148 pc = true := by
  intro pc h
  have hl : sLen 148 = 0 := by decide +kernel
  rw [hl] at h
  exact absurd h (Nat.not_lt_zero _)
theorem sR149 : ∀ pc, pc < sLen 149 → sRowB 149 pc = true := by
  intro pc h
  have hl : sLen 149 = 0 := by decide +kernel
  rw [hl] at h
  exact absurd h (Nat.not_lt_zero _)
theorem sR150 : ∀ pc, pc < sLen 150 → sRowB 150 pc = true := by
  intro pc h
  have hl : sLen 150 = 0 := by decide +kernel
  rw [hl] at h
  exact absurd h (Nat.not_lt_zero _)
theorem sR151 : ∀ pc, pc < sLen 151 → sRowB 151 pc = true := by
  intro pc h
  have hl : sLen 151 = 0 := by decide +kernel
  rw [hl] at h
  exact absurd h (Nat.not_lt_zero _)
theorem sR152 : ∀ pc, pc < sLen 152 → sRowB 152 pc = true := by
  intro pc h
  have hl : sLen 152 = 0 := by decide +kernel
  rw [hl] at h
  exact absurd h (Nat.not_lt_zero _)
theorem sR153 : ∀ pc, pc < sLen 153 → sRowB 153 pc = true := by
  intro pc h
  have hl : sLen 153 = 0 := by decide +kernel
  rw [hl] at h
  exact absurd h (Nat.not_lt_zero _)
theorem sR154 : ∀ pc, pc < sLen 154 → sRowB 154 pc = true := by
  intro pc h
  have hl : sLen 154 = 0 := by decide +kernel
  rw [hl] at h
  exact absurd h (Nat.not_lt_zero _)
theorem sR155 : ∀ pc, pc < sLen 155 → sRowB 155 pc = true := by
  intro pc h
  have hl : sLen 155 = 0 := by decide +kernel
  rw [hl] at h
  exact absurd h (Nat.not_lt_zero _)
theorem sR156 : ∀ pc, pc < sLen 156 → sRowB 156 pc = true := by
  intro pc h
  have hl : sLen 156 = 0 := by decide +kernel
  rw [hl] at h
  exact absurd h (Nat.not_lt_zero _)
theorem sR157 : ∀ pc, pc < sLen 157 → sRowB 157 pc = true := by
  intro pc h
  have hl : sLen 157 = 0 := by decide +kernel
  rw [hl] at h
  exact absurd h (Nat.not_lt_zero _)
theorem sR158 : ∀ pc, pc < sLen 158 → sRowB 158 pc = true := by
  intro pc h
  have hl : sLen 158 = 0 := by decide +kernel
  rw [hl] at h
  exact absurd h (Nat.not_lt_zero _)
theorem sR159 : ∀ pc, pc < sLen 159 → sRowB 159 pc = true := by
  intro pc h
  have hl : sLen 159 = 0 := by decide +kernel
  rw [hl] at h
  exact absurd h (Nat.not_lt_zero _)
theorem sR160 : ∀ pc, pc < sLen 160 → sRowB 160 pc = true := by
  intro pc h
  have hl : sLen 160 = 0 := by decide +kernel
  rw [hl] at h
  exact absurd h (Nat.not_lt_zero _)
theorem sR161 : ∀ pc, pc < sLen 161 → sRowB 161 pc = true := by
  intro pc h
  have hl : sLen 161 = 0 := by decide +kernel
  rw [hl] at h
  exact absurd h (Nat.not_lt_zero _)
theorem sR162 : ∀ pc, pc < sLen 162 → sRowB 162 pc = true := by
  intro pc h
  have hl : sLen 162 = 0 := by decide +kernel
  rw [hl] at h
  exact absurd h (Nat.not_lt_zero _)
theorem sR163 : ∀ pc, pc < sLen 163 → sRowB 163 pc = true := by
  intro pc h
  have hl : sLen 163 = 0 := by decide +kernel
  rw [hl] at h
  exact absurd h (Nat.not_lt_zero _)
theorem sR164 : ∀ pc, pc < sLen 164 → sRowB 164 pc = true := by
  intro pc h
  have hl : sLen 164 = 0 := by decide +kernel
  rw [hl] at h
  exact absurd h (Nat.not_lt_zero _)
theorem sR165 : ∀ pc, pc < sLen 165 → sRowB 165 pc = true := by
  intro pc h
  have hl : sLen 165 = 0 := by decide +kernel
  rw [hl] at h
  exact absurd h (Nat.not_lt_zero _)
theorem sR166 : ∀ pc, pc < sLen 166 → sRowB 166 pc = true := by
  intro pc h
  have hl : sLen 166 = 0 := by decide +kernel
  rw [hl] at h
  exact absurd h (Nat.not_lt_zero _)
theorem sR167 : ∀ pc, pc < sLen 167 → sRowB 167 pc = true := by
  intro pc h
  have hl : sLen 167 = 0 := by decide +kernel
  rw [hl] at h
  exact absurd h (Nat.not_lt_zero _)
theorem sR168 : ∀ pc, pc < sLen 168 → sRowB 168 pc = true := by
  intro pc h
  have hl : sLen 168 = 0 := by decide +kernel
  rw [hl] at h
  exact absurd h (Nat.not_lt_zero _)
theorem sR169 : ∀ pc, pc < sLen 169 → sRowB 169 pc = true := by
  intro pc h
  have hl : sLen 169 = 0 := by decide +kernel
  rw [hl] at h
  exact absurd h (Nat.not_lt_zero _)
theorem sR170 : ∀ pc, pc < sLen 170 → sRowB 170 pc = true := by
  intro pc h
  have hl : sLen 170 = 0 := by decide +kernel
  rw [hl] at h
  exact absurd h (Nat.not_lt_zero _)
theorem sR171 : ∀ pc, pc < sLen 171 → sRowB 171 pc = true := by
  intro pc h
  have hl : sLen 171 = 0 := by decide +kernel
  rw [hl] at h
  exact absurd h (Nat.not_lt_zero _)
theorem sR172 : ∀ pc, pc < sLen 172 → sRowB 172 pc = true := by
  intro pc h
  have hl : sLen 172 = 0 := by decide +kernel
  rw [hl] at h
  exact absurd h (Nat.not_lt_zero _)
theorem sR173 : ∀ pc, pc < sLen 173 → sRowB 173 pc = true := by
  intro pc h
  have hl : sLen 173 = 0 := by decide +kernel
  rw [hl] at h
  exact absurd h (Nat.not_lt_zero _)
theorem sR174 : ∀ pc, pc < sLen 174 → sRowB 174 pc = true := by
  intro pc h
  have hl : sLen 174 = 0 := by decide +kernel
  rw [hl] at h
  exact absurd h (Nat.not_lt_zero _)
theorem sR175 : ∀ pc, pc < sLen 175 → sRowB 175 pc = true := by
  intro pc h
  have hl : sLen 175 = 0 := by decide +kernel
  rw [hl] at h
  exact absurd h (Nat.not_lt_zero _)
theorem sR176 : ∀ pc, pc < sLen 176 → sRowB 176 pc = true := by
  intro pc h
  have hl : sLen 176 = 0 := by decide +kernel
  rw [hl] at h
  exact absurd h (Nat.not_lt_zero _)
theorem sR177 : ∀ pc, pc < sLen 177 → sRowB 177 pc = true := by
  intro pc h
  have hl : sLen 177 = 0 := by decide +kernel
  rw [hl] at h
  exact absurd h (Nat.not_lt_zero _)
theorem sR178 : ∀ pc, pc < sLen 178 → sRowB 178 pc = true := by
  intro pc h
  have hl : sLen 178 = 0 := by decide +kernel
  rw [hl] at h
  exact absurd h (Nat.not_lt_zero _)
theorem sR179 : ∀ pc, pc < sLen 179 → sRowB 179 pc = true := by
  intro pc h
  have hl : sLen 179 = 0 := by decide +kernel
  rw [hl] at h
  exact absurd h (Nat.not_lt_zero _)
theorem sR180 : ∀ pc, pc < sLen 180 → sRowB 180 pc = true := by
  intro pc h
  have hl : sLen 180 = 0 := by decide +kernel
  rw [hl] at h
  exact absurd h (Nat.not_lt_zero _)
theorem sR181 : ∀ pc, pc < sLen 181 → sRowB 181 pc = true := by
  intro pc h
  have hl : sLen 181 = 0 := by decide +kernel
  rw [hl] at h
  exact absurd h (Nat.not_lt_zero _)
theorem sR182 : ∀ pc, pc < sLen 182 → sRowB 182 pc = true := by
  intro pc h
  have hl : sLen 182 = 0 := by decide +kernel
  rw [hl] at h
  exact absurd h (Nat.not_lt_zero _)
theorem sR183 : ∀ pc, pc < sLen 183 → sRowB 183 pc = true := by
  intro pc h
  have hl : sLen 183 = 0 := by decide +kernel
  rw [hl] at h
  exact absurd h (Nat.not_lt_zero _)
theorem sR184 : ∀ pc, pc < sLen 184 → sRowB 184 pc = true := by
  intro pc h
  have hl : sLen 184 = 0 := by decide +kernel
  rw [hl] at h
  exact absurd h (Nat.not_lt_zero _)
theorem sR185 : ∀ pc, pc < sLen 185 → sRowB 185 pc = true := by
  intro pc h
  have hl : sLen 185 = 0 := by decide +kernel
  rw [hl] at h
  exact absurd h (Nat.not_lt_zero _)
theorem sR186 : ∀ pc, pc < sLen 186 → sRowB 186 pc = true := by
  intro pc h
  have hl : sLen 186 = 0 := by decide +kernel
  rw [hl] at h
  exact absurd h (Nat.not_lt_zero _)
theorem sR187 : ∀ pc, pc < sLen 187 → sRowB 187 pc = true := by
  intro pc h
  have hl : sLen 187 = 0 := by decide +kernel
  rw [hl] at h
  exact absurd h (Nat.not_lt_zero _)
theorem sR188 : ∀ pc, pc < sLen 188 → sRowB 188 pc = true := by
  intro pc h
  have hl : sLen 188 = 0 := by decide +kernel
  rw [hl] at h
  exact absurd h (Nat.not_lt_zero _)
theorem sR189 : ∀ pc, pc < sLen 189 → sRowB 189 pc = true := by
  intro pc h
  have hl : sLen 189 = 0 := by decide +kernel
  rw [hl] at h
  exact absurd h (Nat.not_lt_zero _)
theorem sR190 : ∀ pc, pc < sLen 190 → sRowB 190 pc = true := by
  intro pc h
  have hl : sLen 190 = 0 := by decide +kernel
  rw [hl] at h
  exact absurd h (Nat.not_lt_zero _)
theorem sR191 : ∀ pc, pc < sLen 191 → sRowB 191 pc = true := by
  intro pc h
  have hl : sLen 191 = 0 := by decide +kernel
  rw [hl] at h
  exact absurd h (Nat.not_lt_zero _)
theorem sR192 : ∀ pc, pc < sLen 192 → sRowB 192 pc = true := by
  intro pc h
  have hl : sLen 192 = 0 := by decide +kernel
  rw [hl] at h
  exact absurd h (Nat.not_lt_zero _)
theorem sR193 : ∀ pc, pc < sLen 193 → sRowB 193 pc = true := by
  intro pc h
  have hl : sLen 193 = 0 := by decide +kernel
  rw [hl] at h
  exact absurd h (Nat.not_lt_zero _)
theorem sR194 : ∀ pc, pc < sLen 194 → sRowB 194 pc = true := by
  intro pc h
  have hl : sLen 194 = 0 := by decide +kernel
  rw [hl] at h
  exact absurd h (Nat.not_lt_zero _)
theorem sR195 : ∀ pc, pc < sLen 195 → sRowB 195 pc = true := by
  intro pc h
  have hl : sLen 195 = 0 := by decide +kernel
  rw [hl] at h
  exact absurd h (Nat.not_lt_zero _)
theorem sR196 : ∀ pc, pc < sLen 196 → sRowB 196 pc = true := by
  intro pc h
  have hl : sLen 196 = 0 := by decide +kernel
  rw [hl] at h
  exact absurd h (Nat.not_lt_zero _)
theorem sR197 : ∀ pc, pc < sLen 197 → sRowB 197 pc = true := by
  intro pc h
  have hl : sLen 197 = 0 := by decide +kernel
  rw [hl] at h
  exact absurd h (Nat.not_lt_zero _)
theorem sR198 : ∀ pc, pc < sLen 198 → sRowB 198 pc = true := by
  intro pc h
  have hl : sLen 198 = 0 := by decide +kernel
  rw [hl] at h
  exact absurd h (Nat.not_lt_zero _)
theorem sR199 : ∀ pc, pc < sLen 199 → sRowB 199 pc = true := by
  intro pc h
  have hl : sLen 199 = 0 := by decide +kernel
  rw [hl] at h
  exact absurd h (Nat.not_lt_zero _)
theorem sR200 : ∀ pc, pc < sLen 200 → sRowB 200 pc = true := by
  intro pc h
  have hl : sLen 200 = 0 := by decide +kernel
  rw [hl] at h
  exact absurd h (Nat.not_lt_zero _)
theorem sR201 : ∀ pc, pc < sLen 201 → sRowB 201 pc = true := by
  intro pc h
  have hl : sLen 201 = 0 := by decide +kernel
  rw [hl] at h
  exact absurd h (Nat.not_lt_zero _)
theorem sR202 : ∀ pc, pc < sLen 202 → sRowB 202 pc = true := by
  intro pc h
  have hl : sLen 202 = 0 := by decide +kernel
  rw [hl] at h
  exact absurd h (Nat.not_lt_zero _)
theorem sR203 : ∀ pc, pc < sLen 203 → sRowB 203 pc = true := by
  intro pc h
  have hl : sLen 203 = 0 := by decide +kernel
  rw [hl] at h
  exact absurd h (Nat.not_lt_zero _)
theorem sR204 : ∀ pc, pc < sLen 204 → sRowB 204 pc = true := by
  intro pc h
  have hl : sLen 204 = 0 := by decide +kernel
  rw [hl] at h
  exact absurd h (Nat.not_lt_zero _)
theorem sR205 : ∀ pc, pc < sLen 205 → sRowB 205 pc = true := by
  intro pc h
  have hl : sLen 205 = 0 := by decide +kernel
  rw [hl] at h
  exact absurd h (Nat.not_lt_zero _)
theorem sR206 : ∀ pc, pc < sLen 206 → sRowB 206 pc = true := by
  intro pc h
  have hl : sLen 206 = 0 := by decide +kernel
  rw [hl] at h
  exact absurd h (Nat.not_lt_zero _)
theorem sR207 : ∀ pc, pc < sLen 207 → sRowB 207 pc = true := by
  intro pc h
  have hl : sLen 207 = 0 := by decide +kernel
  rw [hl] at h
  exact absurd h (Nat.not_lt_zero _)
theorem sR208 : ∀ pc, pc < sLen 208 → sRowB 208 pc = true := by
  intro pc h
  have hl : sLen 208 = 0 := by decide +kernel
  rw [hl] at h
  exact absurd h (Nat.not_lt_zero _)
theorem sR209 : ∀ pc, pc < sLen 209 → sRowB 209 pc = true := by
  intro pc h
  have hl : sLen 209 = 0 := by decide +kernel
  rw [hl] at h
  exact absurd h (Nat.not_lt_zero _)
theorem sR210 : ∀ pc, pc < sLen 210 → sRowB 210 pc = true := by
  intro pc h
  have hl : sLen 210 = 0 := by decide +kernel
  rw [hl] at h
  exact absurd h (Nat.not_lt_zero _)
theorem sR211 : ∀ pc, pc < sLen 211 → sRowB 211 pc = true := by
  intro pc h
  have hl : sLen 211 = 0 := by decide +kernel
  rw [hl] at h
  exact absurd h (Nat.not_lt_zero _)
theorem sR212 : ∀ pc, pc < sLen 212 → sRowB 212 pc = true := by
  intro pc h
  have hl : sLen 212 = 0 := by decide +kernel
  rw [hl] at h
  exact absurd h (Nat.not_lt_zero _)
theorem sR213 : ∀ pc, pc < sLen 213 → sRowB 213 pc = true := by
  intro pc h
  have hl : sLen 213 = 0 := by decide +kernel
  rw [hl] at h
  exact absurd h (Nat.not_lt_zero _)
theorem sR214 : ∀ pc, pc < sLen 214 → sRowB 214 pc = true := by
  intro pc h
  have hl : sLen 214 = 0 := by decide +kernel
  rw [hl] at h
  exact absurd h (Nat.not_lt_zero _)
theorem sR215 : ∀ pc, pc < sLen 215 → sRowB 215 pc = true := by
  intro pc h
  have hl : sLen 215 = 0 := by decide +kernel
  rw [hl] at h
  exact absurd h (Nat.not_lt_zero _)
theorem sR216 : ∀ pc, pc < sLen 216 → sRowB 216 pc = true := by
  intro pc h
  have hl : sLen 216 = 0 := by decide +kernel
  rw [hl] at h
  exact absurd h (Nat.not_lt_zero _)
theorem sR217 : ∀ pc, pc < sLen 217 → sRowB 217 pc = true := by
  intro pc h
  have hl : sLen 217 = 0 := by decide +kernel
  rw [hl] at h
  exact absurd h (Nat.not_lt_zero _)
theorem sR218 : ∀ pc, pc < sLen 218 → sRowB 218 pc = true := by
  intro pc h
  have hl : sLen 218 = 0 := by decide +kernel
  rw [hl] at h
  exact absurd h (Nat.not_lt_zero _)
theorem sR219 : ∀ pc, pc < sLen 219 → sRowB 219 pc = true := by
  intro pc h
  have hl : sLen 219 = 0 := by decide +kernel
  rw [hl] at h
  exact absurd h (Nat.not_lt_zero _)
theorem sR220 : ∀ pc, pc < sLen 220 → sRowB 220 pc = true := by
  intro pc h
  have hl : sLen 220 = 0 := by decide +kernel
  rw [hl] at h
  exact absurd h (Nat.not_lt_zero _)
theorem sR221 : ∀ pc, pc < sLen 221 → sRowB 221 pc = true := by
  intro pc h
  have hl : sLen 221 = 0 := by decide +kernel
  rw [hl] at h
  exact absurd h (Nat.not_lt_zero _)
theorem sR222 : ∀ pc, pc < sLen 222 → sRowB 222 pc = true := by
  intro pc h
  have hl : sLen 222 = 0 := by decide +kernel
  rw [hl] at h
  exact absurd h (Nat.not_lt_zero _)
theorem sR223 : ∀ pc, pc < sLen 223 → sRowB 223 pc = true := by
  intro pc h
  have hl : sLen 223 = 0 := by decide +kernel
  rw [hl] at h
  exact absurd h (Nat.not_lt_zero _)
theorem sR224 : ∀ pc, pc < sLen 224 → sRowB 224 pc = true := by
  intro pc h
  have hl : sLen 224 = 0 := by decide +kernel
  rw [hl] at h
  exact absurd h (Nat.not_lt_zero _)
theorem sR225 : ∀ pc, pc < sLen 225 → sRowB 225 pc = true := by
  intro pc h
  have hl : sLen 225 = 0 := by decide +kernel
  rw [hl] at h
  exact absurd h (Nat.not_lt_zero _)
theorem sR226 : ∀ pc, pc < sLen 226 → sRowB 226 pc = true := by
  intro pc h
  have hl : sLen 226 = 0 := by decide +kernel
  rw [hl] at h
  exact absurd h (Nat.not_lt_zero _)
theorem sR227 : ∀ pc, pc < sLen 227 → sRowB 227 pc = true := by
  intro pc h
  have hl : sLen 227 = 0 := by decide +kernel
  rw [hl] at h
  exact absurd h (Nat.not_lt_zero _)
theorem sR228 : ∀ pc, pc < sLen 228 → sRowB 228 pc = true := by
  intro pc h
  have hl : sLen 228 = 0 := by decide +kernel
  rw [hl] at h
  exact absurd h (Nat.not_lt_zero _)
theorem sR229 : ∀ pc, pc < sLen 229 → sRowB 229 pc = true := by
  intro pc h
  have hl : sLen 229 = 0 := by decide +kernel
  rw [hl] at h
  exact absurd h (Nat.not_lt_zero _)
theorem sR230 : ∀ pc, pc < sLen 230 → sRowB 230 pc = true := by
  intro pc h
  have hl : sLen 230 = 0 := by decide +kernel
  rw [hl] at h
  exact absurd h (Nat.not_lt_zero _)
theorem sR231 : ∀ pc, pc < sLen 231 → sRowB 231 pc = true := by
  intro pc h
  have hl : sLen 231 = 0 := by decide +kernel
  rw [hl] at h
  exact absurd h (Nat.not_lt_zero _)
theorem sR232 : ∀ pc, pc < sLen 232 → sRowB 232 pc = true := by
  intro pc h
  have hl : sLen 232 = 0 := by decide +kernel
  rw [hl] at h
  exact absurd h (Nat.not_lt_zero _)
theorem sR233 : ∀ pc, pc < sLen 233 → sRowB 233 pc = true := by
  intro pc h
  have hl : sLen 233 = 0 := by decide +kernel
  rw [hl] at h
  exact absurd h (Nat.not_lt_zero _)
theorem sR234 : ∀ pc, pc < sLen 234 → sRowB 234 pc = true := by
  intro pc h
  have hl : sLen 234 = 0 := by decide +kernel
  rw [hl] at h
  exact absurd h (Nat.not_lt_zero _)
theorem sR235 : ∀ pc, pc < sLen 235 → sRowB 235 pc = true := by
  intro pc h
  have hl : sLen 235 = 0 := by decide +kernel
  rw [hl] at h
  exact absurd h (Nat.not_lt_zero _)
theorem sR236 : ∀ pc, pc < sLen 236 → sRowB 236 pc = true := by
  intro pc h
  have hl : sLen 236 = 0 := by decide +kernel
  rw [hl] at h
  exact absurd h (Nat.not_lt_zero _)
theorem sR237 : ∀ pc, pc < sLen 237 → sRowB 237 pc = true := by
  intro pc h
  have hl : sLen 237 = 0 := by decide +kernel
  rw [hl] at h
  exact absurd h (Nat.not_lt_zero _)
theorem sR238 : ∀ pc, pc < sLen 238 → sRowB 238 pc = true := by
  intro pc h
  have hl : sLen 238 = 0 := by decide +kernel
  rw [hl] at h
  exact absurd h (Nat.not_lt_zero _)
theorem sR239 : ∀ pc, pc < sLen 239 → sRowB 239 pc = true := by
  intro pc h
  have hl : sLen 239 = 0 := by decide +kernel
  rw [hl] at h
  exact absurd h (Nat.not_lt_zero _)
theorem sR240 : ∀ pc, pc < sLen 240 → sRowB 240 pc = true := by
  intro pc h
  have hl : sLen 240 = 0 := by decide +kernel
  rw [hl] at h
  exact absurd h (Nat.not_lt_zero _)
theorem sR241 : ∀ pc, pc < sLen 241 → sRowB 241 pc = true := by
  intro pc h
  have hl : sLen 241 = 0 := by decide +kernel
  rw [hl] at h
  exact absurd h (Nat.not_lt_zero _)
theorem sR242 : ∀ pc, pc < sLen 242 → sRowB 242 pc = true := by
  intro pc h
  have hl : sLen 242 = 0 := by decide +kernel
  rw [hl] at h
  exact absurd h (Nat.not_lt_zero _)
theorem sR243 : ∀ pc, pc < sLen 243 → sRowB 243 pc = true := by
  intro pc h
  have hl : sLen 243 = 0 := by decide +kernel
  rw [hl] at h
  exact absurd h (Nat.not_lt_zero _)
theorem sR244 : ∀ pc, pc < sLen 244 → sRowB 244 pc = true := by
  intro pc h
  have hl : sLen 244 = 0 := by decide +kernel
  rw [hl] at h
  exact absurd h (Nat.not_lt_zero _)
theorem sR245_0 : (List.range 5).all (fun q => sRowB 245 (0 + q)) = true := by decide +kernel
theorem sR245 : ∀ pc, pc < sLen 245 → sRowB 245 pc = true := by
  intro pc h
  have hl : sLen 245 = 5 := by decide +kernel
  rw [hl] at h
  have := List.all_eq_true.mp sR245_0 (pc - 0) (List.mem_range.mpr (by omega))
  rwa [show 0 + (pc - 0) = pc by omega] at this
theorem sR246_0 : (List.range 10).all (fun q => sRowB 246 (0 + q)) = true := by decide +kernel
theorem sR246 : ∀ pc, pc < sLen 246 → sRowB 246 pc = true := by
  intro pc h
  have hl : sLen 246 = 10 := by decide +kernel
  rw [hl] at h
  have := List.all_eq_true.mp sR246_0 (pc - 0) (List.mem_range.mpr (by omega))
  rwa [show 0 + (pc - 0) = pc by omega] at this
theorem sR247_0 : (List.range 12).all (fun q => sRowB 247 (0 + q)) = true := by decide +kernel
theorem sR247 : ∀ pc, pc < sLen 247 → sRowB 247 pc = true := by
  intro pc h
  have hl : sLen 247 = 12 := by decide +kernel
  rw [hl] at h
  have := List.all_eq_true.mp sR247_0 (pc - 0) (List.mem_range.mpr (by omega))
  rwa [show 0 + (pc - 0) = pc by omega] at this
theorem sR248_0 : (List.range 60).all (fun q => sRowB 248 (0 + q)) = true := by decide +kernel
theorem sR248 : ∀ pc, pc < sLen 248 → sRowB 248 pc = true := by
  intro pc h
  have hl : sLen 248 = 60 := by decide +kernel
  rw [hl] at h
  have := List.all_eq_true.mp sR248_0 (pc - 0) (List.mem_range.mpr (by omega))
  rwa [show 0 + (pc - 0) = pc by omega] at this
theorem sR249_0 : (List.range 11).all (fun q => sRowB 249 (0 + q)) = true := by decide +kernel
theorem sR249 : ∀ pc, pc < sLen 249 → sRowB 249 pc = true := by
  intro pc h
  have hl : sLen 249 = 11 := by decide +kernel
  rw [hl] at h
  have := List.all_eq_true.mp sR249_0 (pc - 0) (List.mem_range.mpr (by omega))
  rwa [show 0 + (pc - 0) = pc by omega] at this
theorem sR250_0 : (List.range 5).all (fun q => sRowB 250 (0 + q)) = true := by decide +kernel
theorem sR250 : ∀ pc, pc < sLen 250 → sRowB 250 pc = true := by
  intro pc h
  have hl : sLen 250 = 5 := by decide +kernel
  rw [hl] at h
  have := List.all_eq_true.mp sR250_0 (pc - 0) (List.mem_range.mpr (by omega))
  rwa [show 0 + (pc - 0) = pc by omega] at this
theorem sR251_0 : (List.range 7).all (fun q => sRowB 251 (0 + q)) = true := by decide +kernel
theorem sR251 : ∀ pc, pc < sLen 251 → sRowB 251 pc = true := by
  intro pc h
  have hl : sLen 251 = 7 := by decide +kernel
  rw [hl] at h
  have := List.all_eq_true.mp sR251_0 (pc - 0) (List.mem_range.mpr (by omega))
  rwa [show 0 + (pc - 0) = pc by omega] at this
theorem sR252_0 : (List.range 15).all (fun q => sRowB 252 (0 + q)) = true := by decide +kernel
theorem sR252 : ∀ pc, pc < sLen 252 → sRowB 252 pc = true := by
  intro pc h
  have hl : sLen 252 = 15 := by decide +kernel
  rw [hl] at h
  have := List.all_eq_true.mp sR252_0 (pc - 0) (List.mem_range.mpr (by omega))
  rwa [show 0 + (pc - 0) = pc by omega] at this
theorem sR253_0 : (List.range 23).all (fun q => sRowB 253 (0 + q)) = true := by decide +kernel
theorem sR253 : ∀ pc, pc < sLen 253 → sRowB 253 pc = true := by
  intro pc h
  have hl : sLen 253 = 23 := by decide +kernel
  rw [hl] at h
  have := List.all_eq_true.mp sR253_0 (pc - 0) (List.mem_range.mpr (by omega))
  rwa [show 0 + (pc - 0) = pc by omega] at this
theorem sR254_0 : (List.range 25).all (fun q => sRowB 254 (0 + q)) = true := by decide +kernel
theorem sR254 : ∀ pc, pc < sLen 254 → sRowB 254 pc = true := by
  intro pc h
  have hl : sLen 254 = 25 := by decide +kernel
  rw [hl] at h
  have := List.all_eq_true.mp sR254_0 (pc - 0) (List.mem_range.mpr (by omega))
  rwa [show 0 + (pc - 0) = pc by omega] at this
theorem sR255_0 : (List.range 43).all (fun q => sRowB 255 (0 + q)) = true := by decide +kernel
theorem sR255 : ∀ pc, pc < sLen 255 → sRowB 255 pc = true := by
  intro pc h
  have hl : sLen 255 = 43 := by decide +kernel
  rw [hl] at h
  have := List.all_eq_true.mp sR255_0 (pc - 0) (List.mem_range.mpr (by omega))
  rwa [show 0 + (pc - 0) = pc by omega] at this
theorem sR256_0 : (List.range 7).all (fun q => sRowB 256 (0 + q)) = true := by decide +kernel
theorem sR256 : ∀ pc, pc < sLen 256 → sRowB 256 pc = true := by
  intro pc h
  have hl : sLen 256 = 7 := by decide +kernel
  rw [hl] at h
  have := List.all_eq_true.mp sR256_0 (pc - 0) (List.mem_range.mpr (by omega))
  rwa [show 0 + (pc - 0) = pc by omega] at this
theorem sR257_0 : (List.range 27).all (fun q => sRowB 257 (0 + q)) = true := by decide +kernel
theorem sR257 : ∀ pc, pc < sLen 257 → sRowB 257 pc = true := by
  intro pc h
  have hl : sLen 257 = 27 := by decide +kernel
  rw [hl] at h
  have := List.all_eq_true.mp sR257_0 (pc - 0) (List.mem_range.mpr (by omega))
  rwa [show 0 + (pc - 0) = pc by omega] at this
theorem sR258_0 : (List.range 18).all (fun q => sRowB 258 (0 + q)) = true := by decide +kernel
theorem sR258 : ∀ pc, pc < sLen 258 → sRowB 258 pc = true := by
  intro pc h
  have hl : sLen 258 = 18 := by decide +kernel
  rw [hl] at h
  have := List.all_eq_true.mp sR258_0 (pc - 0) (List.mem_range.mpr (by omega))
  rwa [show 0 + (pc - 0) = pc by omega] at this
