/-! CODES: where the cells of both systems lie -/
section SHAPE
/-- the reference: the object 200, its row of field k at 200 + k -/
def mT_m : List (Int × Nat × Int) := [(4, 0, 16), (5, 0, 16), (6, 0, 16), (7, 0, 16), (8, 1, 16), (9, 0, 16), (10, 0, 128), (11, 0, 128), (12, 0, 512), (13, 0, 16), (14, 0, 96), (15, 0, 96), (16, 1, 16), (18, 0, 3072), (19, 0, 3072), (20, 0, 192), (21, 1, 192), (22, 0, 32), (24, 0, 6), (25, 0, 6), (26, 0, 576), (27, 0, 144), (28, 1, 24), (29, 0, 30), (30, 0, 30), (31, 0, 8), (33, 0, 6), (34, 0, 6), (35, 0, 36), (36, 0, 36), (37, 0, 36), (38, 1, 144), (39, 0, 27648), (41, 0, 4), (42, 0, 4), (44, 0, 10)]
def MS (A : mj_M) : Prop := gS A 200 = some (.inl 7) ∧ ∀ q ∈ mT_m, gP A 200 q.1 = some (200 + q.1) ∧ gS A (200 + q.1) = some (.inr (q.2.1, q.2.2))
theorem MS.o {A : mj_M} (h : MS A) : gS A 200 = some (.inl 7) := h.1
theorem MS.p4 {A : mj_M} (h : MS A) : gP A 200 4 = some 204 := (h.2 (4, 0, 16) (List.mem_of_getElem? (i := 0) rfl)).1
theorem MS.s4 {A : mj_M} (h : MS A) : gS A 204 = some (.inr (0, 16)) := (h.2 (4, 0, 16) (List.mem_of_getElem? (i := 0) rfl)).2
theorem MS.p5 {A : mj_M} (h : MS A) : gP A 200 5 = some 205 := (h.2 (5, 0, 16) (List.mem_of_getElem? (i := 1) rfl)).1
theorem MS.s5 {A : mj_M} (h : MS A) : gS A 205 = some (.inr (0, 16)) := (h.2 (5, 0, 16) (List.mem_of_getElem? (i := 1) rfl)).2
theorem MS.p6 {A : mj_M} (h : MS A) : gP A 200 6 = some 206 := (h.2 (6, 0, 16) (List.mem_of_getElem? (i := 2) rfl)).1
theorem MS.s6 {A : mj_M} (h : MS A) : gS A 206 = some (.inr (0, 16)) := (h.2 (6, 0, 16) (List.mem_of_getElem? (i := 2) rfl)).2
theorem MS.p7 {A : mj_M} (h : MS A) : gP A 200 7 = some 207 := (h.2 (7, 0, 16) (List.mem_of_getElem? (i := 3) rfl)).1
theorem MS.s7 {A : mj_M} (h : MS A) : gS A 207 = some (.inr (0, 16)) := (h.2 (7, 0, 16) (List.mem_of_getElem? (i := 3) rfl)).2
theorem MS.p8 {A : mj_M} (h : MS A) : gP A 200 8 = some 208 := (h.2 (8, 1, 16) (List.mem_of_getElem? (i := 4) rfl)).1
theorem MS.s8 {A : mj_M} (h : MS A) : gS A 208 = some (.inr (1, 16)) := (h.2 (8, 1, 16) (List.mem_of_getElem? (i := 4) rfl)).2
theorem MS.p9 {A : mj_M} (h : MS A) : gP A 200 9 = some 209 := (h.2 (9, 0, 16) (List.mem_of_getElem? (i := 5) rfl)).1
theorem MS.s9 {A : mj_M} (h : MS A) : gS A 209 = some (.inr (0, 16)) := (h.2 (9, 0, 16) (List.mem_of_getElem? (i := 5) rfl)).2
theorem MS.p10 {A : mj_M} (h : MS A) : gP A 200 10 = some 210 := (h.2 (10, 0, 128) (List.mem_of_getElem? (i := 6) rfl)).1
theorem MS.s10 {A : mj_M} (h : MS A) : gS A 210 = some (.inr (0, 128)) := (h.2 (10, 0, 128) (List.mem_of_getElem? (i := 6) rfl)).2
theorem MS.p11 {A : mj_M} (h : MS A) : gP A 200 11 = some 211 := (h.2 (11, 0, 128) (List.mem_of_getElem? (i := 7) rfl)).1
theorem MS.s11 {A : mj_M} (h : MS A) : gS A 211 = some (.inr (0, 128)) := (h.2 (11, 0, 128) (List.mem_of_getElem? (i := 7) rfl)).2
theorem MS.p12 {A : mj_M} (h : MS A) : gP A 200 12 = some 212 := (h.2 (12, 0, 512) (List.mem_of_getElem? (i := 8) rfl)).1
theorem MS.s12 {A : mj_M} (h : MS A) : gS A 212 = some (.inr (0, 512)) := (h.2 (12, 0, 512) (List.mem_of_getElem? (i := 8) rfl)).2
theorem MS.p13 {A : mj_M} (h : MS A) : gP A 200 13 = some 213 := (h.2 (13, 0, 16) (List.mem_of_getElem? (i := 9) rfl)).1
theorem MS.s13 {A : mj_M} (h : MS A) : gS A 213 = some (.inr (0, 16)) := (h.2 (13, 0, 16) (List.mem_of_getElem? (i := 9) rfl)).2
theorem MS.p14 {A : mj_M} (h : MS A) : gP A 200 14 = some 214 := (h.2 (14, 0, 96) (List.mem_of_getElem? (i := 10) rfl)).1
theorem MS.s14 {A : mj_M} (h : MS A) : gS A 214 = some (.inr (0, 96)) := (h.2 (14, 0, 96) (List.mem_of_getElem? (i := 10) rfl)).2
theorem MS.p15 {A : mj_M} (h : MS A) : gP A 200 15 = some 215 := (h.2 (15, 0, 96) (List.mem_of_getElem? (i := 11) rfl)).1
theorem MS.s15 {A : mj_M} (h : MS A) : gS A 215 = some (.inr (0, 96)) := (h.2 (15, 0, 96) (List.mem_of_getElem? (i := 11) rfl)).2
theorem MS.p16 {A : mj_M} (h : MS A) : gP A 200 16 = some 216 := (h.2 (16, 1, 16) (List.mem_of_getElem? (i := 12) rfl)).1
theorem MS.s16 {A : mj_M} (h : MS A) : gS A 216 = some (.inr (1, 16)) := (h.2 (16, 1, 16) (List.mem_of_getElem? (i := 12) rfl)).2
theorem MS.p18 {A : mj_M} (h : MS A) : gP A 200 18 = some 218 := (h.2 (18, 0, 3072) (List.mem_of_getElem? (i := 13) rfl)).1
theorem MS.s18 {A : mj_M} (h : MS A) : gS A 218 = some (.inr (0, 3072)) := (h.2 (18, 0, 3072) (List.mem_of_getElem? (i := 13) rfl)).2
theorem MS.p19 {A : mj_M} (h : MS A) : gP A 200 19 = some 219 := (h.2 (19, 0, 3072) (List.mem_of_getElem? (i := 14) rfl)).1
theorem MS.s19 {A : mj_M} (h : MS A) : gS A 219 = some (.inr (0, 3072)) := (h.2 (19, 0, 3072) (List.mem_of_getElem? (i := 14) rfl)).2
theorem MS.p20 {A : mj_M} (h : MS A) : gP A 200 20 = some 220 := (h.2 (20, 0, 192) (List.mem_of_getElem? (i := 15) rfl)).1
theorem MS.s20 {A : mj_M} (h : MS A) : gS A 220 = some (.inr (0, 192)) := (h.2 (20, 0, 192) (List.mem_of_getElem? (i := 15) rfl)).2
theorem MS.p21 {A : mj_M} (h : MS A) : gP A 200 21 = some 221 := (h.2 (21, 1, 192) (List.mem_of_getElem? (i := 16) rfl)).1
theorem MS.s21 {A : mj_M} (h : MS A) : gS A 221 = some (.inr (1, 192)) := (h.2 (21, 1, 192) (List.mem_of_getElem? (i := 16) rfl)).2
theorem MS.p22 {A : mj_M} (h : MS A) : gP A 200 22 = some 222 := (h.2 (22, 0, 32) (List.mem_of_getElem? (i := 17) rfl)).1
theorem MS.s22 {A : mj_M} (h : MS A) : gS A 222 = some (.inr (0, 32)) := (h.2 (22, 0, 32) (List.mem_of_getElem? (i := 17) rfl)).2
theorem MS.p24 {A : mj_M} (h : MS A) : gP A 200 24 = some 224 := (h.2 (24, 0, 6) (List.mem_of_getElem? (i := 18) rfl)).1
theorem MS.s24 {A : mj_M} (h : MS A) : gS A 224 = some (.inr (0, 6)) := (h.2 (24, 0, 6) (List.mem_of_getElem? (i := 18) rfl)).2
theorem MS.p25 {A : mj_M} (h : MS A) : gP A 200 25 = some 225 := (h.2 (25, 0, 6) (List.mem_of_getElem? (i := 19) rfl)).1
theorem MS.s25 {A : mj_M} (h : MS A) : gS A 225 = some (.inr (0, 6)) := (h.2 (25, 0, 6) (List.mem_of_getElem? (i := 19) rfl)).2
theorem MS.p26 {A : mj_M} (h : MS A) : gP A 200 26 = some 226 := (h.2 (26, 0, 576) (List.mem_of_getElem? (i := 20) rfl)).1
theorem MS.s26 {A : mj_M} (h : MS A) : gS A 226 = some (.inr (0, 576)) := (h.2 (26, 0, 576) (List.mem_of_getElem? (i := 20) rfl)).2
theorem MS.p27 {A : mj_M} (h : MS A) : gP A 200 27 = some 227 := (h.2 (27, 0, 144) (List.mem_of_getElem? (i := 21) rfl)).1
theorem MS.s27 {A : mj_M} (h : MS A) : gS A 227 = some (.inr (0, 144)) := (h.2 (27, 0, 144) (List.mem_of_getElem? (i := 21) rfl)).2
theorem MS.p28 {A : mj_M} (h : MS A) : gP A 200 28 = some 228 := (h.2 (28, 1, 24) (List.mem_of_getElem? (i := 22) rfl)).1
theorem MS.s28 {A : mj_M} (h : MS A) : gS A 228 = some (.inr (1, 24)) := (h.2 (28, 1, 24) (List.mem_of_getElem? (i := 22) rfl)).2
theorem MS.p29 {A : mj_M} (h : MS A) : gP A 200 29 = some 229 := (h.2 (29, 0, 30) (List.mem_of_getElem? (i := 23) rfl)).1
theorem MS.s29 {A : mj_M} (h : MS A) : gS A 229 = some (.inr (0, 30)) := (h.2 (29, 0, 30) (List.mem_of_getElem? (i := 23) rfl)).2
theorem MS.p30 {A : mj_M} (h : MS A) : gP A 200 30 = some 230 := (h.2 (30, 0, 30) (List.mem_of_getElem? (i := 24) rfl)).1
theorem MS.s30 {A : mj_M} (h : MS A) : gS A 230 = some (.inr (0, 30)) := (h.2 (30, 0, 30) (List.mem_of_getElem? (i := 24) rfl)).2
theorem MS.p31 {A : mj_M} (h : MS A) : gP A 200 31 = some 231 := (h.2 (31, 0, 8) (List.mem_of_getElem? (i := 25) rfl)).1
theorem MS.s31 {A : mj_M} (h : MS A) : gS A 231 = some (.inr (0, 8)) := (h.2 (31, 0, 8) (List.mem_of_getElem? (i := 25) rfl)).2
theorem MS.p33 {A : mj_M} (h : MS A) : gP A 200 33 = some 233 := (h.2 (33, 0, 6) (List.mem_of_getElem? (i := 26) rfl)).1
theorem MS.s33 {A : mj_M} (h : MS A) : gS A 233 = some (.inr (0, 6)) := (h.2 (33, 0, 6) (List.mem_of_getElem? (i := 26) rfl)).2
theorem MS.p34 {A : mj_M} (h : MS A) : gP A 200 34 = some 234 := (h.2 (34, 0, 6) (List.mem_of_getElem? (i := 27) rfl)).1
theorem MS.s34 {A : mj_M} (h : MS A) : gS A 234 = some (.inr (0, 6)) := (h.2 (34, 0, 6) (List.mem_of_getElem? (i := 27) rfl)).2
theorem MS.p35 {A : mj_M} (h : MS A) : gP A 200 35 = some 235 := (h.2 (35, 0, 36) (List.mem_of_getElem? (i := 28) rfl)).1
theorem MS.s35 {A : mj_M} (h : MS A) : gS A 235 = some (.inr (0, 36)) := (h.2 (35, 0, 36) (List.mem_of_getElem? (i := 28) rfl)).2
theorem MS.p36 {A : mj_M} (h : MS A) : gP A 200 36 = some 236 := (h.2 (36, 0, 36) (List.mem_of_getElem? (i := 29) rfl)).1
theorem MS.s36 {A : mj_M} (h : MS A) : gS A 236 = some (.inr (0, 36)) := (h.2 (36, 0, 36) (List.mem_of_getElem? (i := 29) rfl)).2
theorem MS.p37 {A : mj_M} (h : MS A) : gP A 200 37 = some 237 := (h.2 (37, 0, 36) (List.mem_of_getElem? (i := 30) rfl)).1
theorem MS.s37 {A : mj_M} (h : MS A) : gS A 237 = some (.inr (0, 36)) := (h.2 (37, 0, 36) (List.mem_of_getElem? (i := 30) rfl)).2
theorem MS.p38 {A : mj_M} (h : MS A) : gP A 200 38 = some 238 := (h.2 (38, 1, 144) (List.mem_of_getElem? (i := 31) rfl)).1
theorem MS.s38 {A : mj_M} (h : MS A) : gS A 238 = some (.inr (1, 144)) := (h.2 (38, 1, 144) (List.mem_of_getElem? (i := 31) rfl)).2
theorem MS.p39 {A : mj_M} (h : MS A) : gP A 200 39 = some 239 := (h.2 (39, 0, 27648) (List.mem_of_getElem? (i := 32) rfl)).1
theorem MS.s39 {A : mj_M} (h : MS A) : gS A 239 = some (.inr (0, 27648)) := (h.2 (39, 0, 27648) (List.mem_of_getElem? (i := 32) rfl)).2
theorem MS.p41 {A : mj_M} (h : MS A) : gP A 200 41 = some 241 := (h.2 (41, 0, 4) (List.mem_of_getElem? (i := 33) rfl)).1
theorem MS.s41 {A : mj_M} (h : MS A) : gS A 241 = some (.inr (0, 4)) := (h.2 (41, 0, 4) (List.mem_of_getElem? (i := 33) rfl)).2
theorem MS.p42 {A : mj_M} (h : MS A) : gP A 200 42 = some 242 := (h.2 (42, 0, 4) (List.mem_of_getElem? (i := 34) rfl)).1
theorem MS.s42 {A : mj_M} (h : MS A) : gS A 242 = some (.inr (0, 4)) := (h.2 (42, 0, 4) (List.mem_of_getElem? (i := 34) rfl)).2
theorem MS.p44 {A : mj_M} (h : MS A) : gP A 200 44 = some 244 := (h.2 (44, 0, 10) (List.mem_of_getElem? (i := 35) rfl)).1
theorem MS.s44 {A : mj_M} (h : MS A) : gS A 244 = some (.inr (0, 10)) := (h.2 (44, 0, 10) (List.mem_of_getElem? (i := 35) rfl)).2
/-- the class: the object 100, its rows at 101 + k; the sketch 116 with rows 120, 121, 122; the row of the hands 118; the fill 117 with rows 123, 124 -/
def mT_h : List (Int × Int × Nat × Int) := [(0, 101, 3, 16), (4, 105, 0, 32), (5, 106, 5, 6), (7, 108, 0, 8), (8, 109, 4, 6), (10, 111, 0, 4), (12, 113, 0, 10), (14, 115, 0, 192), (17, 118, 0, 4)]
def HS (A : mj_M) : Prop := gS A 100 = some (.inl 6) ∧ (∀ q ∈ mT_h, gP A 100 q.1 = some q.2.1 ∧ gS A q.2.1 = some (.inr (q.2.2.1, q.2.2.2))) ∧ (gP A 100 15 = some 116 ∧ gS A 116 = some (.inl 3) ∧ gP A 116 0 = some 120 ∧ gP A 116 1 = some 121 ∧ gP A 116 2 = some 122 ∧ gS A 120 = some (.inr (0, 192)) ∧ gS A 121 = some (.inr (0, 192)) ∧ gS A 122 = some (.inr (0, 192))) ∧ gP A 100 16 = some 117 ∧ gS A 117 = some (.inl 1) ∧ gP A 117 0 = some 123 ∧ gP A 117 1 = some 124 ∧ gS A 123 = some (.inr (0, 192)) ∧ gS A 124 = some (.inr (0, 192))
theorem HS.o {A : mj_M} (h : HS A) : gS A 100 = some (.inl 6) := h.1
theorem HS.p0 {A : mj_M} (h : HS A) : gP A 100 0 = some 101 := (h.2.1 (0, 101, 3, 16) (List.mem_of_getElem? (i := 0) rfl)).1
theorem HS.s0 {A : mj_M} (h : HS A) : gS A 101 = some (.inr (3, 16)) := (h.2.1 (0, 101, 3, 16) (List.mem_of_getElem? (i := 0) rfl)).2
theorem HS.p4 {A : mj_M} (h : HS A) : gP A 100 4 = some 105 := (h.2.1 (4, 105, 0, 32) (List.mem_of_getElem? (i := 1) rfl)).1
theorem HS.s4 {A : mj_M} (h : HS A) : gS A 105 = some (.inr (0, 32)) := (h.2.1 (4, 105, 0, 32) (List.mem_of_getElem? (i := 1) rfl)).2
theorem HS.p5 {A : mj_M} (h : HS A) : gP A 100 5 = some 106 := (h.2.1 (5, 106, 5, 6) (List.mem_of_getElem? (i := 2) rfl)).1
theorem HS.s5 {A : mj_M} (h : HS A) : gS A 106 = some (.inr (5, 6)) := (h.2.1 (5, 106, 5, 6) (List.mem_of_getElem? (i := 2) rfl)).2
theorem HS.p7 {A : mj_M} (h : HS A) : gP A 100 7 = some 108 := (h.2.1 (7, 108, 0, 8) (List.mem_of_getElem? (i := 3) rfl)).1
theorem HS.s7 {A : mj_M} (h : HS A) : gS A 108 = some (.inr (0, 8)) := (h.2.1 (7, 108, 0, 8) (List.mem_of_getElem? (i := 3) rfl)).2
theorem HS.p8 {A : mj_M} (h : HS A) : gP A 100 8 = some 109 := (h.2.1 (8, 109, 4, 6) (List.mem_of_getElem? (i := 4) rfl)).1
theorem HS.s8 {A : mj_M} (h : HS A) : gS A 109 = some (.inr (4, 6)) := (h.2.1 (8, 109, 4, 6) (List.mem_of_getElem? (i := 4) rfl)).2
theorem HS.p10 {A : mj_M} (h : HS A) : gP A 100 10 = some 111 := (h.2.1 (10, 111, 0, 4) (List.mem_of_getElem? (i := 5) rfl)).1
theorem HS.s10 {A : mj_M} (h : HS A) : gS A 111 = some (.inr (0, 4)) := (h.2.1 (10, 111, 0, 4) (List.mem_of_getElem? (i := 5) rfl)).2
theorem HS.p12 {A : mj_M} (h : HS A) : gP A 100 12 = some 113 := (h.2.1 (12, 113, 0, 10) (List.mem_of_getElem? (i := 6) rfl)).1
theorem HS.s12 {A : mj_M} (h : HS A) : gS A 113 = some (.inr (0, 10)) := (h.2.1 (12, 113, 0, 10) (List.mem_of_getElem? (i := 6) rfl)).2
theorem HS.p14 {A : mj_M} (h : HS A) : gP A 100 14 = some 115 := (h.2.1 (14, 115, 0, 192) (List.mem_of_getElem? (i := 7) rfl)).1
theorem HS.s14 {A : mj_M} (h : HS A) : gS A 115 = some (.inr (0, 192)) := (h.2.1 (14, 115, 0, 192) (List.mem_of_getElem? (i := 7) rfl)).2
theorem HS.p17 {A : mj_M} (h : HS A) : gP A 100 17 = some 118 := (h.2.1 (17, 118, 0, 4) (List.mem_of_getElem? (i := 8) rfl)).1
theorem HS.s17 {A : mj_M} (h : HS A) : gS A 118 = some (.inr (0, 4)) := (h.2.1 (17, 118, 0, 4) (List.mem_of_getElem? (i := 8) rfl)).2
theorem HS.p15 {A : mj_M} (h : HS A) : gP A 100 15 = some 116 := h.2.2.1.1
theorem HS.p16 {A : mj_M} (h : HS A) : gP A 100 16 = some 117 := h.2.2.2.1
/-- a picture t with its rows l, w, q -/
def CS (A : mj_M) (t l w q : Int) : Prop := gS A t = some (.inl 3) ∧ (gP A t 0 = some l ∧ gP A t 1 = some w ∧ gP A t 2 = some q) ∧ gS A l = some (.inr (0, 192)) ∧ gS A w = some (.inr (0, 192)) ∧ gS A q = some (.inr (0, 192))
theorem CS.o {A : mj_M} {t l w q : Int} (h : CS A t l w q) : gS A t = some (.inl 3) := h.1
theorem CS.p0 {A : mj_M} {t l w q : Int} (h : CS A t l w q) : gP A t 0 = some l := h.2.1.1
theorem CS.s0 {A : mj_M} {t l w q : Int} (h : CS A t l w q) : gS A l = some (.inr (0, 192)) := h.2.2.1
theorem CS.p1 {A : mj_M} {t l w q : Int} (h : CS A t l w q) : gP A t 1 = some w := h.2.1.2.1
theorem CS.s1 {A : mj_M} {t l w q : Int} (h : CS A t l w q) : gS A w = some (.inr (0, 192)) := h.2.2.2.1
theorem CS.p2 {A : mj_M} {t l w q : Int} (h : CS A t l w q) : gP A t 2 = some q := h.2.1.2.2
theorem CS.s2 {A : mj_M} {t l w q : Int} (h : CS A t l w q) : gS A q = some (.inr (0, 192)) := h.2.2.2.2
theorem HS.cs {A : mj_M} (h : HS A) : CS A 116 120 121 122 := ⟨h.2.2.1.2.1, ⟨h.2.2.1.2.2.1, h.2.2.1.2.2.2.1, h.2.2.1.2.2.2.2.1⟩, h.2.2.1.2.2.2.2.2.1, h.2.2.1.2.2.2.2.2.2.1, h.2.2.1.2.2.2.2.2.2.2⟩
/-- the fill -/
def FS (A : mj_M) : Prop := gS A 117 = some (.inl 1) ∧ gP A 117 0 = some 123 ∧ gP A 117 1 = some 124 ∧ gS A 123 = some (.inr (0, 192)) ∧ gS A 124 = some (.inr (0, 192))
theorem HS.fs {A : mj_M} (h : HS A) : FS A := h.2.2.2.2
theorem FS.o {A : mj_M} (h : FS A) : gS A 117 = some (.inl 1) := h.1
theorem FS.p0 {A : mj_M} (h : FS A) : gP A 117 0 = some 123 := h.2.1
theorem FS.p1 {A : mj_M} (h : FS A) : gP A 117 1 = some 124 := h.2.2.1
theorem FS.s0 {A : mj_M} (h : FS A) : gS A 123 = some (.inr (0, 192)) := h.2.2.2.1
theorem FS.s1 {A : mj_M} (h : FS A) : gS A 124 = some (.inr (0, 192)) := h.2.2.2.2
/-- n drawings: the object 1000 + 100 d; its strokes in the row + 1, the strokes + 2 to + 9 in some order; paints + 10, + 11; the picture + 12 with rows + 13, + 14, + 15 -/
def DS1 (A : mj_M) (d : Int) : Prop := gS A (1000 + 100 * d) = some (.inl 0) ∧ (gP A (1000 + 100 * d) 5 = some (1000 + 100 * d + 1) ∧ gP A (1000 + 100 * d) 7 = some (1000 + 100 * d + 10) ∧ gP A (1000 + 100 * d) 8 = some (1000 + 100 * d + 11) ∧ gP A (1000 + 100 * d) 12 = some (1000 + 100 * d + 12)) ∧ (gS A (1000 + 100 * d + 1) = some (.inr (6, 8)) ∧ gS A (1000 + 100 * d + 10) = some (.inr (0, 6)) ∧ gS A (1000 + 100 * d + 11) = some (.inr (0, 6))) ∧ CS A (1000 + 100 * d + 12) (1000 + 100 * d + 13) (1000 + 100 * d + 14) (1000 + 100 * d + 15) ∧ (∀ j, 0 ≤ j → j < 8 → gS A (1000 + 100 * d + 2 + j) = some (.inl 5)) ∧ (∀ i, 0 ≤ i → i < 8 → ∃ j, gP A (1000 + 100 * d + 1) i = some (1000 + 100 * d + 2 + j) ∧ 0 ≤ j ∧ j < 8) ∧ ∀ i i', 0 ≤ i → i < 8 → 0 ≤ i' → i' < 8 → gP A (1000 + 100 * d + 1) i = gP A (1000 + 100 * d + 1) i' → i = i'
def DS (A : mj_M) (n : Int) : Prop := ∀ d, 0 ≤ d → d < n → DS1 A d
theorem DS.o {A : mj_M} {n : Int} (h : DS A n) (d : Int) (h0 : 0 ≤ d) (h1 : d < n) : gS A (1000 + 100 * d) = some (.inl 0) := (h d h0 h1).1
theorem DS.p5 {A : mj_M} {n : Int} (h : DS A n) (d : Int) (h0 : 0 ≤ d) (h1 : d < n) : gP A (1000 + 100 * d) 5 = some (1000 + 100 * d + 1) := (h d h0 h1).2.1.1
theorem DS.p7 {A : mj_M} {n : Int} (h : DS A n) (d : Int) (h0 : 0 ≤ d) (h1 : d < n) : gP A (1000 + 100 * d) 7 = some (1000 + 100 * d + 10) := (h d h0 h1).2.1.2.1
theorem DS.p8 {A : mj_M} {n : Int} (h : DS A n) (d : Int) (h0 : 0 ≤ d) (h1 : d < n) : gP A (1000 + 100 * d) 8 = some (1000 + 100 * d + 11) := (h d h0 h1).2.1.2.2.1
theorem DS.p12 {A : mj_M} {n : Int} (h : DS A n) (d : Int) (h0 : 0 ≤ d) (h1 : d < n) : gP A (1000 + 100 * d) 12 = some (1000 + 100 * d + 12) := (h d h0 h1).2.1.2.2.2
theorem DS.s5 {A : mj_M} {n : Int} (h : DS A n) (d : Int) (h0 : 0 ≤ d) (h1 : d < n) : gS A (1000 + 100 * d + 1) = some (.inr (6, 8)) := (h d h0 h1).2.2.1.1
theorem DS.s7 {A : mj_M} {n : Int} (h : DS A n) (d : Int) (h0 : 0 ≤ d) (h1 : d < n) : gS A (1000 + 100 * d + 10) = some (.inr (0, 6)) := (h d h0 h1).2.2.1.2.1
theorem DS.s8 {A : mj_M} {n : Int} (h : DS A n) (d : Int) (h0 : 0 ≤ d) (h1 : d < n) : gS A (1000 + 100 * d + 11) = some (.inr (0, 6)) := (h d h0 h1).2.2.1.2.2
theorem DS.cs {A : mj_M} {n : Int} (h : DS A n) (d : Int) (h0 : 0 ≤ d) (h1 : d < n) : CS A (1000 + 100 * d + 12) (1000 + 100 * d + 13) (1000 + 100 * d + 14) (1000 + 100 * d + 15) := (h d h0 h1).2.2.2.1
/-- n scenes: the object 4000 + 100 s, its rows + 1 to + 6 -/
def SS1 (A : mj_M) (s : Int) : Prop := gS A (4000 + 100 * s) = some (.inl 4) ∧ (gP A (4000 + 100 * s) 2 = some (4000 + 100 * s + 1) ∧ gP A (4000 + 100 * s) 3 = some (4000 + 100 * s + 2) ∧ gP A (4000 + 100 * s) 4 = some (4000 + 100 * s + 3) ∧ gP A (4000 + 100 * s) 5 = some (4000 + 100 * s + 4) ∧ gP A (4000 + 100 * s) 6 = some (4000 + 100 * s + 5) ∧ gP A (4000 + 100 * s) 8 = some (4000 + 100 * s + 6)) ∧ gS A (4000 + 100 * s + 1) = some (.inr (0, 4 * gI A (4000 + 100 * s) 0)) ∧ gS A (4000 + 100 * s + 2) = some (.inr (0, gI A (4000 + 100 * s) 0)) ∧ gS A (4000 + 100 * s + 3) = some (.inr (1, 4)) ∧ gS A (4000 + 100 * s + 4) = some (.inr (4, 4)) ∧ gS A (4000 + 100 * s + 5) = some (.inr (0, 4)) ∧ gS A (4000 + 100 * s + 6) = some (.inr (0, 192 * gI A (4000 + 100 * s) 0))
def SS (A : mj_M) (n : Int) : Prop := ∀ s, 0 ≤ s → s < n → SS1 A s
theorem SS.o {A : mj_M} {n : Int} (h : SS A n) (s : Int) (h0 : 0 ≤ s) (h1 : s < n) : gS A (4000 + 100 * s) = some (.inl 4) := (h s h0 h1).1
theorem SS.p2 {A : mj_M} {n : Int} (h : SS A n) (s : Int) (h0 : 0 ≤ s) (h1 : s < n) : gP A (4000 + 100 * s) 2 = some (4000 + 100 * s + 1) := (h s h0 h1).2.1.1
theorem SS.p3 {A : mj_M} {n : Int} (h : SS A n) (s : Int) (h0 : 0 ≤ s) (h1 : s < n) : gP A (4000 + 100 * s) 3 = some (4000 + 100 * s + 2) := (h s h0 h1).2.1.2.1
theorem SS.p4 {A : mj_M} {n : Int} (h : SS A n) (s : Int) (h0 : 0 ≤ s) (h1 : s < n) : gP A (4000 + 100 * s) 4 = some (4000 + 100 * s + 3) := (h s h0 h1).2.1.2.2.1
theorem SS.p5 {A : mj_M} {n : Int} (h : SS A n) (s : Int) (h0 : 0 ≤ s) (h1 : s < n) : gP A (4000 + 100 * s) 5 = some (4000 + 100 * s + 4) := (h s h0 h1).2.1.2.2.2.1
theorem SS.p6 {A : mj_M} {n : Int} (h : SS A n) (s : Int) (h0 : 0 ≤ s) (h1 : s < n) : gP A (4000 + 100 * s) 6 = some (4000 + 100 * s + 5) := (h s h0 h1).2.1.2.2.2.2.1
theorem SS.p8 {A : mj_M} {n : Int} (h : SS A n) (s : Int) (h0 : 0 ≤ s) (h1 : s < n) : gP A (4000 + 100 * s) 8 = some (4000 + 100 * s + 6) := (h s h0 h1).2.1.2.2.2.2.2
theorem SS.s2 {A : mj_M} {n : Int} (h : SS A n) (s : Int) (h0 : 0 ≤ s) (h1 : s < n) : gS A (4000 + 100 * s + 1) = some (.inr (0, 4 * gI A (4000 + 100 * s) 0)) := (h s h0 h1).2.2.1
theorem SS.s3 {A : mj_M} {n : Int} (h : SS A n) (s : Int) (h0 : 0 ≤ s) (h1 : s < n) : gS A (4000 + 100 * s + 2) = some (.inr (0, gI A (4000 + 100 * s) 0)) := (h s h0 h1).2.2.2.1
theorem SS.s4 {A : mj_M} {n : Int} (h : SS A n) (s : Int) (h0 : 0 ≤ s) (h1 : s < n) : gS A (4000 + 100 * s + 3) = some (.inr (1, 4)) := (h s h0 h1).2.2.2.2.1
theorem SS.s5 {A : mj_M} {n : Int} (h : SS A n) (s : Int) (h0 : 0 ≤ s) (h1 : s < n) : gS A (4000 + 100 * s + 4) = some (.inr (4, 4)) := (h s h0 h1).2.2.2.2.2.1
theorem SS.s6 {A : mj_M} {n : Int} (h : SS A n) (s : Int) (h0 : 0 ≤ s) (h1 : s < n) : gS A (4000 + 100 * s + 5) = some (.inr (0, 4)) := (h s h0 h1).2.2.2.2.2.2.1
theorem SS.s8 {A : mj_M} {n : Int} (h : SS A n) (s : Int) (h0 : 0 ≤ s) (h1 : s < n) : gS A (4000 + 100 * s + 6) = some (.inr (0, 192 * gI A (4000 + 100 * s) 0)) := (h s h0 h1).2.2.2.2.2.2.2
/-- n pegs: the object 6000 + 100 p, its rows + 1 to + 3 -/
def PS1 (A : mj_M) (p : Int) : Prop := gS A (6000 + 100 * p) = some (.inl 2) ∧ (gP A (6000 + 100 * p) 1 = some (6000 + 100 * p + 1) ∧ gP A (6000 + 100 * p) 2 = some (6000 + 100 * p + 2) ∧ gP A (6000 + 100 * p) 3 = some (6000 + 100 * p + 3)) ∧ gS A (6000 + 100 * p + 1) = some (.inr (1, 24)) ∧ gS A (6000 + 100 * p + 2) = some (.inr (0, 24)) ∧ gS A (6000 + 100 * p + 3) = some (.inr (0, 24))
def PS (A : mj_M) (n : Int) : Prop := ∀ p, 0 ≤ p → p < n → PS1 A p
theorem PS.o {A : mj_M} {n : Int} (h : PS A n) (p : Int) (h0 : 0 ≤ p) (h1 : p < n) : gS A (6000 + 100 * p) = some (.inl 2) := (h p h0 h1).1
theorem PS.p1 {A : mj_M} {n : Int} (h : PS A n) (p : Int) (h0 : 0 ≤ p) (h1 : p < n) : gP A (6000 + 100 * p) 1 = some (6000 + 100 * p + 1) := (h p h0 h1).2.1.1
theorem PS.p2 {A : mj_M} {n : Int} (h : PS A n) (p : Int) (h0 : 0 ≤ p) (h1 : p < n) : gP A (6000 + 100 * p) 2 = some (6000 + 100 * p + 2) := (h p h0 h1).2.1.2.1
theorem PS.p3 {A : mj_M} {n : Int} (h : PS A n) (p : Int) (h0 : 0 ≤ p) (h1 : p < n) : gP A (6000 + 100 * p) 3 = some (6000 + 100 * p + 3) := (h p h0 h1).2.1.2.2
theorem PS.s1 {A : mj_M} {n : Int} (h : PS A n) (p : Int) (h0 : 0 ≤ p) (h1 : p < n) : gS A (6000 + 100 * p + 1) = some (.inr (1, 24)) := (h p h0 h1).2.2.1
theorem PS.s2 {A : mj_M} {n : Int} (h : PS A n) (p : Int) (h0 : 0 ≤ p) (h1 : p < n) : gS A (6000 + 100 * p + 2) = some (.inr (0, 24)) := (h p h0 h1).2.2.2.1
theorem PS.s3 {A : mj_M} {n : Int} (h : PS A n) (p : Int) (h0 : 0 ≤ p) (h1 : p < n) : gS A (6000 + 100 * p + 3) = some (.inr (0, 24)) := (h p h0 h1).2.2.2.2
end SHAPE
