/-! shapes and references of the world of both objects -/
theorem kC0 : m_kn 0 = 0 := by decide
theorem lC0 : m_ln 0 = 0 := by decide
theorem kC1 : m_kn 1 = 0 := by decide
theorem lC1 : m_ln 1 = 1 := by decide
theorem kC2 : m_kn 2 = 1 := by decide
theorem lC2 : m_ln 2 = 16 := by decide
theorem kC3 : m_kn 3 = 3 := by decide
theorem lC3 : m_ln 3 = 10 := by decide
theorem kC4 : m_kn 4 = 1 := by decide
theorem lC4 : m_ln 4 = 4 := by decide
theorem kC5 : m_kn 5 = 4 := by decide
theorem lC5 : m_ln 5 = 10 := by decide
theorem kC166 : m_kn 166 = 0 := by decide
theorem lC166 : m_ln 166 = 5 := by decide
theorem kC167 : m_kn 167 = 1 := by decide
theorem lC167 : m_ln 167 = 128 := by decide
theorem kC168 : m_kn 168 = 1 := by decide
theorem lC168 : m_ln 168 = 128 := by decide
theorem kC169 : m_kn 169 = 1 := by decide
theorem lC169 : m_ln 169 = 4 := by decide
theorem kC170 : m_kn 170 = 0 := by decide
theorem lC170 : m_ln 170 = 6 := by decide
theorem kC171 : m_kn 171 = 1 := by decide
theorem lC171 : m_ln 171 = 16 := by decide
theorem kC172 : m_kn 172 = 1 := by decide
theorem lC172 : m_ln 172 = 10 := by decide
theorem kC173 : m_kn 173 = 1 := by decide
theorem lC173 : m_ln 173 = 10 := by decide
theorem kC174 : m_kn 174 = 1 := by decide
theorem lC174 : m_ln 174 = 30 := by decide
theorem kC175 : m_kn 175 = 2 := by decide
theorem lC175 : m_ln 175 = 30 := by decide
theorem kC176 : m_kn 176 = 1 := by decide
theorem lC176 : m_ln 176 = 10 := by decide
theorem kC177 : m_kn 177 = 1 := by decide
theorem lC177 : m_ln 177 = 80 := by decide
theorem kC178 : m_kn 178 = 1 := by decide
theorem lC178 : m_ln 178 = 80 := by decide
theorem kC179 : m_kn 179 = 1 := by decide
theorem lC179 : m_ln 179 = 80 := by decide
theorem kC180 : m_kn 180 = 1 := by decide
theorem lC180 : m_ln 180 = 4 := by decide
theorem kC181 : m_kn 181 = 1 := by decide
theorem lC181 : m_ln 181 = 4 := by decide
theorem kC182 : m_kn 182 = 1 := by decide
theorem lC182 : m_ln 182 = 128 := by decide
theorem kC183 : m_kn 183 = 1 := by decide
theorem lC183 : m_ln 183 = 128 := by decide
theorem kC184 : m_kn 184 = 1 := by decide
theorem lC184 : m_ln 184 = 10 := by decide
theorem kC185 : m_kn 185 = 1 := by decide
theorem lC185 : m_ln 185 = 10 := by decide
theorem kC186 : m_kn 186 = 1 := by decide
theorem lC186 : m_ln 186 = 10 := by decide
theorem kC187 : m_kn 187 = 1 := by decide
theorem lC187 : m_ln 187 = 10 := by decide
theorem kC188 : m_kn 188 = 1 := by decide
theorem lC188 : m_ln 188 = 10 := by decide
theorem kC189 : m_kn 189 = 2 := by decide
theorem lC189 : m_ln 189 = 10 := by decide
theorem kC190 : m_kn 190 = 2 := by decide
theorem lC190 : m_ln 190 = 40 := by decide
theorem kC191 : m_kn 191 = 1 := by decide
theorem lC191 : m_ln 191 = 40 := by decide
theorem kC192 : m_kn 192 = 2 := by decide
theorem lC192 : m_ln 192 = 10 := by decide
theorem kC193 : m_kn 193 = 2 := by decide
theorem lC193 : m_ln 193 = 40 := by decide
theorem kC194 : m_kn 194 = 1 := by decide
theorem lC194 : m_ln 194 = 40 := by decide
theorem kC195 : m_kn 195 = 2 := by decide
theorem lC195 : m_ln 195 = 40 := by decide
theorem kC196 : m_kn 196 = 2 := by decide
theorem lC196 : m_ln 196 = 40 := by decide
theorem kC197 : m_kn 197 = 2 := by decide
theorem lC197 : m_ln 197 = 10 := by decide
theorem kC198 : m_kn 198 = 1 := by decide
theorem lC198 : m_ln 198 = 10 := by decide
theorem kC199 : m_kn 199 = 1 := by decide
theorem lC199 : m_ln 199 = 80 := by decide
theorem kC200 : m_kn 200 = 2 := by decide
theorem lC200 : m_ln 200 = 80 := by decide
theorem kB0 {i : Nat} (h : i < 10) : m_kn (6 + 16 * i) = 0 := (by decide : ∀ i, i < 10 → m_kn (6 + 16 * i) = 0) i h
theorem lB0 {i : Nat} (h : i < 10) : m_ln (6 + 16 * i) = 2 := (by decide : ∀ i, i < 10 → m_ln (6 + 16 * i) = 2) i h
theorem kB1 {i : Nat} (h : i < 10) : m_kn (7 + 16 * i) = 1 := (by decide : ∀ i, i < 10 → m_kn (7 + 16 * i) = 1) i h
theorem lB1 {i : Nat} (h : i < 10) : m_ln (7 + 16 * i) = 3 := (by decide : ∀ i, i < 10 → m_ln (7 + 16 * i) = 3) i h
theorem kB2 {i : Nat} (h : i < 10) : m_kn (8 + 16 * i) = 2 := (by decide : ∀ i, i < 10 → m_kn (8 + 16 * i) = 2) i h
theorem lB2 {i : Nat} (h : i < 10) : m_ln (8 + 16 * i) = 3 := (by decide : ∀ i, i < 10 → m_ln (8 + 16 * i) = 3) i h
theorem kB3 {i : Nat} (h : i < 10) : m_kn (9 + 16 * i) = 1 := (by decide : ∀ i, i < 10 → m_kn (9 + 16 * i) = 1) i h
theorem lB3 {i : Nat} (h : i < 10) : m_ln (9 + 16 * i) = 8 := (by decide : ∀ i, i < 10 → m_ln (9 + 16 * i) = 8) i h
theorem kB4 {i : Nat} (h : i < 10) : m_kn (10 + 16 * i) = 1 := (by decide : ∀ i, i < 10 → m_kn (10 + 16 * i) = 1) i h
theorem lB4 {i : Nat} (h : i < 10) : m_ln (10 + 16 * i) = 8 := (by decide : ∀ i, i < 10 → m_ln (10 + 16 * i) = 8) i h
theorem kB5 {i : Nat} (h : i < 10) : m_kn (11 + 16 * i) = 1 := (by decide : ∀ i, i < 10 → m_kn (11 + 16 * i) = 1) i h
theorem lB5 {i : Nat} (h : i < 10) : m_ln (11 + 16 * i) = 8 := (by decide : ∀ i, i < 10 → m_ln (11 + 16 * i) = 8) i h
theorem kB6 {i : Nat} (h : i < 10) : m_kn (12 + 16 * i) = 0 := (by decide : ∀ i, i < 10 → m_kn (12 + 16 * i) = 0) i h
theorem lB6 {i : Nat} (h : i < 10) : m_ln (12 + 16 * i) = 4 := (by decide : ∀ i, i < 10 → m_ln (12 + 16 * i) = 4) i h
theorem kB7 {i : Nat} (h : i < 10) : m_kn (13 + 16 * i) = 0 := (by decide : ∀ i, i < 10 → m_kn (13 + 16 * i) = 0) i h
theorem lB7 {i : Nat} (h : i < 10) : m_ln (13 + 16 * i) = 3 := (by decide : ∀ i, i < 10 → m_ln (13 + 16 * i) = 3) i h
theorem kB8 {i : Nat} (h : i < 10) : m_kn (14 + 16 * i) = 1 := (by decide : ∀ i, i < 10 → m_kn (14 + 16 * i) = 1) i h
theorem lB8 {i : Nat} (h : i < 10) : m_ln (14 + 16 * i) = 4 := (by decide : ∀ i, i < 10 → m_ln (14 + 16 * i) = 4) i h
theorem kB9 {i : Nat} (h : i < 10) : m_kn (15 + 16 * i) = 2 := (by decide : ∀ i, i < 10 → m_kn (15 + 16 * i) = 2) i h
theorem lB9 {i : Nat} (h : i < 10) : m_ln (15 + 16 * i) = 4 := (by decide : ∀ i, i < 10 → m_ln (15 + 16 * i) = 4) i h
theorem kB10 {i : Nat} (h : i < 10) : m_kn (16 + 16 * i) = 2 := (by decide : ∀ i, i < 10 → m_kn (16 + 16 * i) = 2) i h
theorem lB10 {i : Nat} (h : i < 10) : m_ln (16 + 16 * i) = 4 := (by decide : ∀ i, i < 10 → m_ln (16 + 16 * i) = 4) i h
theorem kB11 {i : Nat} (h : i < 10) : m_kn (17 + 16 * i) = 2 := (by decide : ∀ i, i < 10 → m_kn (17 + 16 * i) = 2) i h
theorem lB11 {i : Nat} (h : i < 10) : m_ln (17 + 16 * i) = 4 := (by decide : ∀ i, i < 10 → m_ln (17 + 16 * i) = 4) i h
theorem kB12 {i : Nat} (h : i < 10) : m_kn (18 + 16 * i) = 1 := (by decide : ∀ i, i < 10 → m_kn (18 + 16 * i) = 1) i h
theorem lB12 {i : Nat} (h : i < 10) : m_ln (18 + 16 * i) = 8 := (by decide : ∀ i, i < 10 → m_ln (18 + 16 * i) = 8) i h
theorem kB13 {i : Nat} (h : i < 10) : m_kn (19 + 16 * i) = 2 := (by decide : ∀ i, i < 10 → m_kn (19 + 16 * i) = 2) i h
theorem lB13 {i : Nat} (h : i < 10) : m_ln (19 + 16 * i) = 8 := (by decide : ∀ i, i < 10 → m_ln (19 + 16 * i) = 8) i h
theorem kB14 {i : Nat} (h : i < 10) : m_kn (20 + 16 * i) = 1 := (by decide : ∀ i, i < 10 → m_kn (20 + 16 * i) = 1) i h
theorem lB14 {i : Nat} (h : i < 10) : m_ln (20 + 16 * i) = 4 := (by decide : ∀ i, i < 10 → m_ln (20 + 16 * i) = 4) i h
theorem kB15 {i : Nat} (h : i < 10) : m_kn (21 + 16 * i) = 2 := (by decide : ∀ i, i < 10 → m_kn (21 + 16 * i) = 2) i h
theorem lB15 {i : Nat} (h : i < 10) : m_ln (21 + 16 * i) = 4 := (by decide : ∀ i, i < 10 → m_ln (21 + 16 * i) = 4) i h
theorem gC0_0 {g : Nat → Nat → Option Nat} (hg : m_go_ g) : g 0 0 = some 1 := hg (0, 0, 1) (by decide)
theorem gC0_1 {g : Nat → Nat → Option Nat} (hg : m_go_ g) : g 0 1 = some 3 := hg (0, 1, 3) (by decide)
theorem gC0_3 {g : Nat → Nat → Option Nat} (hg : m_go_ g) : g 0 3 = some 4 := hg (0, 3, 4) (by decide)
theorem gC0_4 {g : Nat → Nat → Option Nat} (hg : m_go_ g) : g 0 4 = some 5 := hg (0, 4, 5) (by decide)
theorem gC0_5 {g : Nat → Nat → Option Nat} (hg : m_go_ g) : g 0 5 = some 166 := hg (0, 5, 166) (by decide)
theorem gC0_6 {g : Nat → Nat → Option Nat} (hg : m_go_ g) : g 0 6 = some 169 := hg (0, 6, 169) (by decide)
theorem gC1_0 {g : Nat → Nat → Option Nat} (hg : m_go_ g) : g 1 0 = some 2 := hg (1, 0, 2) (by decide)
theorem gC166_0 {g : Nat → Nat → Option Nat} (hg : m_go_ g) : g 166 0 = some 167 := hg (166, 0, 167) (by decide)
theorem gC166_1 {g : Nat → Nat → Option Nat} (hg : m_go_ g) : g 166 1 = some 168 := hg (166, 1, 168) (by decide)
theorem gB0_1 {g : Nat → Nat → Option Nat} (hg : m_go_ g) {i : Nat} (h : i < 10) : g (6 + 16 * i) 1 = some (7 + 16 * i) := hg (6 + 16 * i, 1, 7 + 16 * i) ((by decide : ∀ i, i < 10 → (6 + 16 * i, 1, 7 + 16 * i) ∈ m_GL) i h)
theorem gB0_2 {g : Nat → Nat → Option Nat} (hg : m_go_ g) {i : Nat} (h : i < 10) : g (6 + 16 * i) 2 = some (8 + 16 * i) := hg (6 + 16 * i, 2, 8 + 16 * i) ((by decide : ∀ i, i < 10 → (6 + 16 * i, 2, 8 + 16 * i) ∈ m_GL) i h)
theorem gB0_4 {g : Nat → Nat → Option Nat} (hg : m_go_ g) {i : Nat} (h : i < 10) : g (6 + 16 * i) 4 = some (9 + 16 * i) := hg (6 + 16 * i, 4, 9 + 16 * i) ((by decide : ∀ i, i < 10 → (6 + 16 * i, 4, 9 + 16 * i) ∈ m_GL) i h)
theorem gB0_5 {g : Nat → Nat → Option Nat} (hg : m_go_ g) {i : Nat} (h : i < 10) : g (6 + 16 * i) 5 = some (10 + 16 * i) := hg (6 + 16 * i, 5, 10 + 16 * i) ((by decide : ∀ i, i < 10 → (6 + 16 * i, 5, 10 + 16 * i) ∈ m_GL) i h)
theorem gB0_6 {g : Nat → Nat → Option Nat} (hg : m_go_ g) {i : Nat} (h : i < 10) : g (6 + 16 * i) 6 = some (11 + 16 * i) := hg (6 + 16 * i, 6, 11 + 16 * i) ((by decide : ∀ i, i < 10 → (6 + 16 * i, 6, 11 + 16 * i) ∈ m_GL) i h)
theorem gB6_0 {g : Nat → Nat → Option Nat} (hg : m_go_ g) {i : Nat} (h : i < 10) : g (12 + 16 * i) 0 = some (13 + 16 * i) := hg (12 + 16 * i, 0, 13 + 16 * i) ((by decide : ∀ i, i < 10 → (12 + 16 * i, 0, 13 + 16 * i) ∈ m_GL) i h)
theorem gB6_5 {g : Nat → Nat → Option Nat} (hg : m_go_ g) {i : Nat} (h : i < 10) : g (12 + 16 * i) 5 = some (20 + 16 * i) := hg (12 + 16 * i, 5, 20 + 16 * i) ((by decide : ∀ i, i < 10 → (12 + 16 * i, 5, 20 + 16 * i) ∈ m_GL) i h)
theorem gB6_6 {g : Nat → Nat → Option Nat} (hg : m_go_ g) {i : Nat} (h : i < 10) : g (12 + 16 * i) 6 = some (21 + 16 * i) := hg (12 + 16 * i, 6, 21 + 16 * i) ((by decide : ∀ i, i < 10 → (12 + 16 * i, 6, 21 + 16 * i) ∈ m_GL) i h)
theorem gB7_0 {g : Nat → Nat → Option Nat} (hg : m_go_ g) {i : Nat} (h : i < 10) : g (13 + 16 * i) 0 = some (14 + 16 * i) := hg (13 + 16 * i, 0, 14 + 16 * i) ((by decide : ∀ i, i < 10 → (13 + 16 * i, 0, 14 + 16 * i) ∈ m_GL) i h)
theorem gB7_1 {g : Nat → Nat → Option Nat} (hg : m_go_ g) {i : Nat} (h : i < 10) : g (13 + 16 * i) 1 = some (15 + 16 * i) := hg (13 + 16 * i, 1, 15 + 16 * i) ((by decide : ∀ i, i < 10 → (13 + 16 * i, 1, 15 + 16 * i) ∈ m_GL) i h)
theorem gB7_2 {g : Nat → Nat → Option Nat} (hg : m_go_ g) {i : Nat} (h : i < 10) : g (13 + 16 * i) 2 = some (16 + 16 * i) := hg (13 + 16 * i, 2, 16 + 16 * i) ((by decide : ∀ i, i < 10 → (13 + 16 * i, 2, 16 + 16 * i) ∈ m_GL) i h)
theorem gB7_3 {g : Nat → Nat → Option Nat} (hg : m_go_ g) {i : Nat} (h : i < 10) : g (13 + 16 * i) 3 = some (17 + 16 * i) := hg (13 + 16 * i, 3, 17 + 16 * i) ((by decide : ∀ i, i < 10 → (13 + 16 * i, 3, 17 + 16 * i) ∈ m_GL) i h)
theorem gB7_4 {g : Nat → Nat → Option Nat} (hg : m_go_ g) {i : Nat} (h : i < 10) : g (13 + 16 * i) 4 = some (18 + 16 * i) := hg (13 + 16 * i, 4, 18 + 16 * i) ((by decide : ∀ i, i < 10 → (13 + 16 * i, 4, 18 + 16 * i) ∈ m_GL) i h)
theorem gB7_5 {g : Nat → Nat → Option Nat} (hg : m_go_ g) {i : Nat} (h : i < 10) : g (13 + 16 * i) 5 = some (19 + 16 * i) := hg (13 + 16 * i, 5, 19 + 16 * i) ((by decide : ∀ i, i < 10 → (13 + 16 * i, 5, 19 + 16 * i) ∈ m_GL) i h)
theorem gC170_1 {g : Nat → Nat → Option Nat} (hg : m_go_ g) : g 170 1 = some 171 := hg (170, 1, 171) (by decide)
theorem gC170_3 {g : Nat → Nat → Option Nat} (hg : m_go_ g) : g 170 3 = some 172 := hg (170, 3, 172) (by decide)
theorem gC170_4 {g : Nat → Nat → Option Nat} (hg : m_go_ g) : g 170 4 = some 173 := hg (170, 4, 173) (by decide)
theorem gC170_5 {g : Nat → Nat → Option Nat} (hg : m_go_ g) : g 170 5 = some 174 := hg (170, 5, 174) (by decide)
theorem gC170_6 {g : Nat → Nat → Option Nat} (hg : m_go_ g) : g 170 6 = some 175 := hg (170, 6, 175) (by decide)
theorem gC170_7 {g : Nat → Nat → Option Nat} (hg : m_go_ g) : g 170 7 = some 176 := hg (170, 7, 176) (by decide)
theorem gC170_8 {g : Nat → Nat → Option Nat} (hg : m_go_ g) : g 170 8 = some 177 := hg (170, 8, 177) (by decide)
theorem gC170_9 {g : Nat → Nat → Option Nat} (hg : m_go_ g) : g 170 9 = some 178 := hg (170, 9, 178) (by decide)
theorem gC170_10 {g : Nat → Nat → Option Nat} (hg : m_go_ g) : g 170 10 = some 179 := hg (170, 10, 179) (by decide)
theorem gC170_11 {g : Nat → Nat → Option Nat} (hg : m_go_ g) : g 170 11 = some 180 := hg (170, 11, 180) (by decide)
theorem gC170_12 {g : Nat → Nat → Option Nat} (hg : m_go_ g) : g 170 12 = some 181 := hg (170, 12, 181) (by decide)
theorem gC170_15 {g : Nat → Nat → Option Nat} (hg : m_go_ g) : g 170 15 = some 182 := hg (170, 15, 182) (by decide)
theorem gC170_16 {g : Nat → Nat → Option Nat} (hg : m_go_ g) : g 170 16 = some 183 := hg (170, 16, 183) (by decide)
theorem gC170_20 {g : Nat → Nat → Option Nat} (hg : m_go_ g) : g 170 20 = some 184 := hg (170, 20, 184) (by decide)
theorem gC170_21 {g : Nat → Nat → Option Nat} (hg : m_go_ g) : g 170 21 = some 185 := hg (170, 21, 185) (by decide)
theorem gC170_22 {g : Nat → Nat → Option Nat} (hg : m_go_ g) : g 170 22 = some 186 := hg (170, 22, 186) (by decide)
theorem gC170_23 {g : Nat → Nat → Option Nat} (hg : m_go_ g) : g 170 23 = some 187 := hg (170, 23, 187) (by decide)
theorem gC170_24 {g : Nat → Nat → Option Nat} (hg : m_go_ g) : g 170 24 = some 188 := hg (170, 24, 188) (by decide)
theorem gC170_25 {g : Nat → Nat → Option Nat} (hg : m_go_ g) : g 170 25 = some 189 := hg (170, 25, 189) (by decide)
theorem gC170_26 {g : Nat → Nat → Option Nat} (hg : m_go_ g) : g 170 26 = some 190 := hg (170, 26, 190) (by decide)
theorem gC170_27 {g : Nat → Nat → Option Nat} (hg : m_go_ g) : g 170 27 = some 191 := hg (170, 27, 191) (by decide)
theorem gC170_28 {g : Nat → Nat → Option Nat} (hg : m_go_ g) : g 170 28 = some 192 := hg (170, 28, 192) (by decide)
theorem gC170_29 {g : Nat → Nat → Option Nat} (hg : m_go_ g) : g 170 29 = some 193 := hg (170, 29, 193) (by decide)
theorem gC170_30 {g : Nat → Nat → Option Nat} (hg : m_go_ g) : g 170 30 = some 194 := hg (170, 30, 194) (by decide)
theorem gC170_31 {g : Nat → Nat → Option Nat} (hg : m_go_ g) : g 170 31 = some 195 := hg (170, 31, 195) (by decide)
theorem gC170_32 {g : Nat → Nat → Option Nat} (hg : m_go_ g) : g 170 32 = some 196 := hg (170, 32, 196) (by decide)
theorem gC170_33 {g : Nat → Nat → Option Nat} (hg : m_go_ g) : g 170 33 = some 197 := hg (170, 33, 197) (by decide)
theorem gC170_34 {g : Nat → Nat → Option Nat} (hg : m_go_ g) : g 170 34 = some 198 := hg (170, 34, 198) (by decide)
theorem gC170_35 {g : Nat → Nat → Option Nat} (hg : m_go_ g) : g 170 35 = some 199 := hg (170, 35, 199) (by decide)
theorem gC170_36 {g : Nat → Nat → Option Nat} (hg : m_go_ g) : g 170 36 = some 200 := hg (170, 36, 200) (by decide)
theorem gA3 {g : Nat → Nat → Option Nat} (hg : m_go_ g) {i : Nat} (h : i < 10) : g 3 i = some (6 + 16 * i) := hg (3, i, 6 + 16 * i) ((by decide : ∀ i, i < 10 → (3, i, 6 + 16 * i) ∈ m_GL) i h)
theorem gA5 {g : Nat → Nat → Option Nat} (hg : m_go_ g) {i : Nat} (h : i < 10) : g 5 i = some (12 + 16 * i) := hg (5, i, 12 + 16 * i) ((by decide : ∀ i, i < 10 → (5, i, 12 + 16 * i) ∈ m_GL) i h)
theorem m_go_sr {g : Nat → Nat → Option Nat} (hg : m_go_ g) {k j : Nat} {v : Option Nat} (hk : k % 16 = 12) (hj : j = 1 ∨ j = 2) (hk2 : k < 166) : m_go_ (m_sr g k j v) := by
  intro q hq
  have h1 : ∀ q ∈ m_GL, ¬ (q.1 % 16 = 12 ∧ (q.2.1 = 1 ∨ q.2.1 = 2) ∧ q.1 < 166) := by decide +kernel
  have h2 := h1 q hq
  show (if q.1 = k ∧ q.2.1 = j then v else g q.1 q.2.1) = _
  rw [if_neg (fun h => h2 ⟨by rw [h.1]; exact hk, by rw [h.2]; exact hj, by rw [h.1]; exact hk2⟩)]
  exact hg q hq
theorem m_z1 : (1 : Int32) = 0 ∨ (1 : Int32) = 1 := Or.inr rfl
theorem m_z0 : (0 : Int32) = 0 ∨ (0 : Int32) = 1 := Or.inl rfl
theorem n_lt {a b : Nat} (ha : a < 2 ^ 31) (hb : b < 2 ^ 31) : (nI a < nI b) = (a < b) := propext (nI_ltI ha hb)
theorem n_le {a b : Nat} (ha : a < 2 ^ 31) (hb : b < 2 ^ 31) : (nI a ≤ nI b) = (a ≤ b) := propext (nI_leI ha hb)
theorem n_eq {a b : Nat} (ha : a < 2 ^ 31) (hb : b < 2 ^ 31) : (nI a = nI b) = (a = b) := propext (nI_eq ha hb)
theorem n_neg {a : Nat} (ha : a < 2 ^ 31) : (nI a < 0) = False := eq_false (nI_pos ha)
