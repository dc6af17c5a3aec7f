/-! the class: shapes of its objects -/
def SeaS (L : Nat) (sh : Nat → SH) (s : Option Nat) (la : Option Nat) : Prop := 115 ≤ L ∧ sh (49) = (6, 7, [s, la, some 50, some 51, some 52, some 53, some 54, some 55]) ∧ sh (50) = (0, 25, []) ∧ sh (51) = (0, 25, []) ∧ sh (52) = (0, 25, []) ∧ sh (53) = (0, 32, []) ∧ sh (54) = (3, 9, []) ∧ sh (55) = (3, 60, [])
section SeaS_S
variable {L : Nat} {sh : Nat → SH} {s : Option Nat} {la : Option Nat} {c : Nat → Int → Int} {f : Int → Int}
theorem SeaS_g0 (h : SeaS L sh s la) : (hp L sh c)[49]? = some (.inr (.inr (.inr (7, ob 7 [s, la, some 50, some 51, some 52, some 53, some 54, some 55] (c (49)))))) := hO (by have := h.1; omega) (h.2.1)
theorem SeaS_s0 (h : SeaS L sh s la) : (hp L sh c).set (49) (.inr (.inr (.inr (7, ob 7 [s, la, some 50, some 51, some 52, some 53, some 54, some 55] f)))) = hp L sh (fr c (49) f) := hOs (h.2.1)
theorem SeaS_g1 (h : SeaS L sh s la) : (hp L sh c)[50]? = some (.inl (0, al 25 (c (50)))) := hI (by have := h.1; omega) (h.2.2.1)
theorem SeaS_s1 (h : SeaS L sh s la) : (hp L sh c).set (50) (.inl (0, al 25 f)) = hp L sh (fr c (50) f) := hIs (h.2.2.1)
theorem SeaS_g2 (h : SeaS L sh s la) : (hp L sh c)[51]? = some (.inl (0, al 25 (c (51)))) := hI (by have := h.1; omega) (h.2.2.2.1)
theorem SeaS_s2 (h : SeaS L sh s la) : (hp L sh c).set (51) (.inl (0, al 25 f)) = hp L sh (fr c (51) f) := hIs (h.2.2.2.1)
theorem SeaS_g3 (h : SeaS L sh s la) : (hp L sh c)[52]? = some (.inl (0, al 25 (c (52)))) := hI (by have := h.1; omega) (h.2.2.2.2.1)
theorem SeaS_s3 (h : SeaS L sh s la) : (hp L sh c).set (52) (.inl (0, al 25 f)) = hp L sh (fr c (52) f) := hIs (h.2.2.2.2.1)
theorem SeaS_g4 (h : SeaS L sh s la) : (hp L sh c)[53]? = some (.inl (0, al 32 (c (53)))) := hI (by have := h.1; omega) (h.2.2.2.2.2.1)
theorem SeaS_s4 (h : SeaS L sh s la) : (hp L sh c).set (53) (.inl (0, al 32 f)) = hp L sh (fr c (53) f) := hIs (h.2.2.2.2.2.1)
theorem SeaS_g5 (h : SeaS L sh s la) : (hp L sh c)[54]? = some (.inr (.inl (al 9 (c (54))))) := hL (by have := h.1; omega) (h.2.2.2.2.2.2.1)
theorem SeaS_s5 (h : SeaS L sh s la) : (hp L sh c).set (54) (.inr (.inl (al 9 f))) = hp L sh (fr c (54) f) := hLs (h.2.2.2.2.2.2.1)
theorem SeaS_g6 (h : SeaS L sh s la) : (hp L sh c)[55]? = some (.inr (.inl (al 60 (c (55))))) := hL (by have := h.1; omega) (h.2.2.2.2.2.2.2)
theorem SeaS_s6 (h : SeaS L sh s la) : (hp L sh c).set (55) (.inr (.inl (al 60 f))) = hp L sh (fr c (55) f) := hLs (h.2.2.2.2.2.2.2)
theorem SeaS_of {L2 : Nat} {sh2 : Nat → SH} (h : SeaS L sh s la) (hL : L ≤ L2) (hs : ∀ a, a < L → sh2 a = sh a) : SeaS L2 sh2 s la := ⟨by have := h.1; omega, (hs (49) (by have := h.1; omega)).trans (h.2.1), (hs (50) (by have := h.1; omega)).trans (h.2.2.1), (hs (51) (by have := h.1; omega)).trans (h.2.2.2.1), (hs (52) (by have := h.1; omega)).trans (h.2.2.2.2.1), (hs (53) (by have := h.1; omega)).trans (h.2.2.2.2.2.1), (hs (54) (by have := h.1; omega)).trans (h.2.2.2.2.2.2.1), (hs (55) (by have := h.1; omega)).trans (h.2.2.2.2.2.2.2)⟩
end SeaS_S
def ShoS (L : Nat) (sh : Nat → SH) (s : Nat) : Prop := s + 7 < L ∧ sh (s) = (6, 8, [some (s + 1), some (s + 2), some (s + 3), some (s + 4), some (s + 5), some (s + 6), some (s + 7)]) ∧ sh (s + 1) = (0, 25, []) ∧ sh (s + 2) = (0, 6, []) ∧ sh (s + 3) = (0, 6, []) ∧ sh (s + 4) = (0, 6, []) ∧ sh (s + 5) = (0, 12, []) ∧ sh (s + 6) = (0, 3, []) ∧ sh (s + 7) = (0, 100, [])
section ShoS_S
variable {L : Nat} {sh : Nat → SH} {s : Nat} {c : Nat → Int → Int} {f : Int → Int}
theorem ShoS_g0 (h : ShoS L sh s) : (hp L sh c)[s]? = some (.inr (.inr (.inr (8, ob 8 [some (s + 1), some (s + 2), some (s + 3), some (s + 4), some (s + 5), some (s + 6), some (s + 7)] (c (s)))))) := hO (by have := h.1; omega) (h.2.1)
theorem ShoS_s0 (h : ShoS L sh s) : (hp L sh c).set (s) (.inr (.inr (.inr (8, ob 8 [some (s + 1), some (s + 2), some (s + 3), some (s + 4), some (s + 5), some (s + 6), some (s + 7)] f)))) = hp L sh (fr c (s) f) := hOs (h.2.1)
theorem ShoS_g1 (h : ShoS L sh s) : (hp L sh c)[s + 1]? = some (.inl (0, al 25 (c (s + 1)))) := hI (by have := h.1; omega) (h.2.2.1)
theorem ShoS_s1 (h : ShoS L sh s) : (hp L sh c).set (s + 1) (.inl (0, al 25 f)) = hp L sh (fr c (s + 1) f) := hIs (h.2.2.1)
theorem ShoS_g2 (h : ShoS L sh s) : (hp L sh c)[s + 2]? = some (.inl (0, al 6 (c (s + 2)))) := hI (by have := h.1; omega) (h.2.2.2.1)
theorem ShoS_s2 (h : ShoS L sh s) : (hp L sh c).set (s + 2) (.inl (0, al 6 f)) = hp L sh (fr c (s + 2) f) := hIs (h.2.2.2.1)
theorem ShoS_g3 (h : ShoS L sh s) : (hp L sh c)[s + 3]? = some (.inl (0, al 6 (c (s + 3)))) := hI (by have := h.1; omega) (h.2.2.2.2.1)
theorem ShoS_s3 (h : ShoS L sh s) : (hp L sh c).set (s + 3) (.inl (0, al 6 f)) = hp L sh (fr c (s + 3) f) := hIs (h.2.2.2.2.1)
theorem ShoS_g4 (h : ShoS L sh s) : (hp L sh c)[s + 4]? = some (.inl (0, al 6 (c (s + 4)))) := hI (by have := h.1; omega) (h.2.2.2.2.2.1)
theorem ShoS_s4 (h : ShoS L sh s) : (hp L sh c).set (s + 4) (.inl (0, al 6 f)) = hp L sh (fr c (s + 4) f) := hIs (h.2.2.2.2.2.1)
theorem ShoS_g5 (h : ShoS L sh s) : (hp L sh c)[s + 5]? = some (.inl (0, al 12 (c (s + 5)))) := hI (by have := h.1; omega) (h.2.2.2.2.2.2.1)
theorem ShoS_s5 (h : ShoS L sh s) : (hp L sh c).set (s + 5) (.inl (0, al 12 f)) = hp L sh (fr c (s + 5) f) := hIs (h.2.2.2.2.2.2.1)
theorem ShoS_g6 (h : ShoS L sh s) : (hp L sh c)[s + 6]? = some (.inl (0, al 3 (c (s + 6)))) := hI (by have := h.1; omega) (h.2.2.2.2.2.2.2.1)
theorem ShoS_s6 (h : ShoS L sh s) : (hp L sh c).set (s + 6) (.inl (0, al 3 f)) = hp L sh (fr c (s + 6) f) := hIs (h.2.2.2.2.2.2.2.1)
theorem ShoS_g7 (h : ShoS L sh s) : (hp L sh c)[s + 7]? = some (.inl (0, al 100 (c (s + 7)))) := hI (by have := h.1; omega) (h.2.2.2.2.2.2.2.2)
theorem ShoS_s7 (h : ShoS L sh s) : (hp L sh c).set (s + 7) (.inl (0, al 100 f)) = hp L sh (fr c (s + 7) f) := hIs (h.2.2.2.2.2.2.2.2)
theorem ShoS_of {L2 : Nat} {sh2 : Nat → SH} (h : ShoS L sh s) (hL : L ≤ L2) (hs : ∀ a, a < L → sh2 a = sh a) : ShoS L2 sh2 s := ⟨by have := h.1; omega, (hs (s) (by have := h.1; omega)).trans (h.2.1), (hs (s + 1) (by have := h.1; omega)).trans (h.2.2.1), (hs (s + 2) (by have := h.1; omega)).trans (h.2.2.2.1), (hs (s + 3) (by have := h.1; omega)).trans (h.2.2.2.2.1), (hs (s + 4) (by have := h.1; omega)).trans (h.2.2.2.2.2.1), (hs (s + 5) (by have := h.1; omega)).trans (h.2.2.2.2.2.2.1), (hs (s + 6) (by have := h.1; omega)).trans (h.2.2.2.2.2.2.2.1), (hs (s + 7) (by have := h.1; omega)).trans (h.2.2.2.2.2.2.2.2)⟩
end ShoS_S
def SanS (L : Nat) (sh : Nat → SH) (r : Nat) : Prop := r + 3 < L ∧ sh (r) = (6, 5, [some (r + 1), some (r + 2), some (r + 3)]) ∧ sh (r + 1) = (0, 25, []) ∧ sh (r + 2) = (0, 6, []) ∧ sh (r + 3) = (0, 6, [])
section SanS_S
variable {L : Nat} {sh : Nat → SH} {r : Nat} {c : Nat → Int → Int} {f : Int → Int}
theorem SanS_g0 (h : SanS L sh r) : (hp L sh c)[r]? = some (.inr (.inr (.inr (5, ob 5 [some (r + 1), some (r + 2), some (r + 3)] (c (r)))))) := hO (by have := h.1; omega) (h.2.1)
theorem SanS_s0 (h : SanS L sh r) : (hp L sh c).set (r) (.inr (.inr (.inr (5, ob 5 [some (r + 1), some (r + 2), some (r + 3)] f)))) = hp L sh (fr c (r) f) := hOs (h.2.1)
theorem SanS_g1 (h : SanS L sh r) : (hp L sh c)[r + 1]? = some (.inl (0, al 25 (c (r + 1)))) := hI (by have := h.1; omega) (h.2.2.1)
theorem SanS_s1 (h : SanS L sh r) : (hp L sh c).set (r + 1) (.inl (0, al 25 f)) = hp L sh (fr c (r + 1) f) := hIs (h.2.2.1)
theorem SanS_g2 (h : SanS L sh r) : (hp L sh c)[r + 2]? = some (.inl (0, al 6 (c (r + 2)))) := hI (by have := h.1; omega) (h.2.2.2.1)
theorem SanS_s2 (h : SanS L sh r) : (hp L sh c).set (r + 2) (.inl (0, al 6 f)) = hp L sh (fr c (r + 2) f) := hIs (h.2.2.2.1)
theorem SanS_g3 (h : SanS L sh r) : (hp L sh c)[r + 3]? = some (.inl (0, al 6 (c (r + 3)))) := hI (by have := h.1; omega) (h.2.2.2.2)
theorem SanS_s3 (h : SanS L sh r) : (hp L sh c).set (r + 3) (.inl (0, al 6 f)) = hp L sh (fr c (r + 3) f) := hIs (h.2.2.2.2)
theorem SanS_of {L2 : Nat} {sh2 : Nat → SH} (h : SanS L sh r) (hL : L ≤ L2) (hs : ∀ a, a < L → sh2 a = sh a) : SanS L2 sh2 r := ⟨by have := h.1; omega, (hs (r) (by have := h.1; omega)).trans (h.2.1), (hs (r + 1) (by have := h.1; omega)).trans (h.2.2.1), (hs (r + 2) (by have := h.1; omega)).trans (h.2.2.2.1), (hs (r + 3) (by have := h.1; omega)).trans (h.2.2.2.2)⟩
end SanS_S
def LogS (L : Nat) (sh : Nat → SH) (r : Nat) : Prop := r + 3 < L ∧ sh (r) = (6, 3, [some (r + 1), some (r + 2), some (r + 3)]) ∧ sh (r + 1) = (0, 10, []) ∧ sh (r + 2) = (0, 10, []) ∧ sh (r + 3) = (0, 10, [])
section LogS_S
variable {L : Nat} {sh : Nat → SH} {r : Nat} {c : Nat → Int → Int} {f : Int → Int}
theorem LogS_g0 (h : LogS L sh r) : (hp L sh c)[r]? = some (.inr (.inr (.inr (3, ob 3 [some (r + 1), some (r + 2), some (r + 3)] (c (r)))))) := hO (by have := h.1; omega) (h.2.1)
theorem LogS_s0 (h : LogS L sh r) : (hp L sh c).set (r) (.inr (.inr (.inr (3, ob 3 [some (r + 1), some (r + 2), some (r + 3)] f)))) = hp L sh (fr c (r) f) := hOs (h.2.1)
theorem LogS_g1 (h : LogS L sh r) : (hp L sh c)[r + 1]? = some (.inl (0, al 10 (c (r + 1)))) := hI (by have := h.1; omega) (h.2.2.1)
theorem LogS_s1 (h : LogS L sh r) : (hp L sh c).set (r + 1) (.inl (0, al 10 f)) = hp L sh (fr c (r + 1) f) := hIs (h.2.2.1)
theorem LogS_g2 (h : LogS L sh r) : (hp L sh c)[r + 2]? = some (.inl (0, al 10 (c (r + 2)))) := hI (by have := h.1; omega) (h.2.2.2.1)
theorem LogS_s2 (h : LogS L sh r) : (hp L sh c).set (r + 2) (.inl (0, al 10 f)) = hp L sh (fr c (r + 2) f) := hIs (h.2.2.2.1)
theorem LogS_g3 (h : LogS L sh r) : (hp L sh c)[r + 3]? = some (.inl (0, al 10 (c (r + 3)))) := hI (by have := h.1; omega) (h.2.2.2.2)
theorem LogS_s3 (h : LogS L sh r) : (hp L sh c).set (r + 3) (.inl (0, al 10 f)) = hp L sh (fr c (r + 3) f) := hIs (h.2.2.2.2)
theorem LogS_of {L2 : Nat} {sh2 : Nat → SH} (h : LogS L sh r) (hL : L ≤ L2) (hs : ∀ a, a < L → sh2 a = sh a) : LogS L2 sh2 r := ⟨by have := h.1; omega, (hs (r) (by have := h.1; omega)).trans (h.2.1), (hs (r + 1) (by have := h.1; omega)).trans (h.2.2.1), (hs (r + 2) (by have := h.1; omega)).trans (h.2.2.2.1), (hs (r + 3) (by have := h.1; omega)).trans (h.2.2.2.2)⟩
end LogS_S
def LawS (L : Nat) (sh : Nat → SH) (r : Nat) (m1 : Nat) (m2 : Nat) : Prop := r + 2 < L ∧ sh (r) = (6, 1, [some (r + 1), some (r + 2)]) ∧ sh (r + 1) = (0, m1, []) ∧ sh (r + 2) = (0, m2, [])
section LawS_S
variable {L : Nat} {sh : Nat → SH} {r : Nat} {m1 : Nat} {m2 : Nat} {c : Nat → Int → Int} {f : Int → Int}
theorem LawS_g0 (h : LawS L sh r m1 m2) : (hp L sh c)[r]? = some (.inr (.inr (.inr (1, ob 1 [some (r + 1), some (r + 2)] (c (r)))))) := hO (by have := h.1; omega) (h.2.1)
theorem LawS_s0 (h : LawS L sh r m1 m2) : (hp L sh c).set (r) (.inr (.inr (.inr (1, ob 1 [some (r + 1), some (r + 2)] f)))) = hp L sh (fr c (r) f) := hOs (h.2.1)
theorem LawS_g1 (h : LawS L sh r m1 m2) : (hp L sh c)[r + 1]? = some (.inl (0, al m1 (c (r + 1)))) := hI (by have := h.1; omega) (h.2.2.1)
theorem LawS_s1 (h : LawS L sh r m1 m2) : (hp L sh c).set (r + 1) (.inl (0, al m1 f)) = hp L sh (fr c (r + 1) f) := hIs (h.2.2.1)
theorem LawS_g2 (h : LawS L sh r m1 m2) : (hp L sh c)[r + 2]? = some (.inl (0, al m2 (c (r + 2)))) := hI (by have := h.1; omega) (h.2.2.2)
theorem LawS_s2 (h : LawS L sh r m1 m2) : (hp L sh c).set (r + 2) (.inl (0, al m2 f)) = hp L sh (fr c (r + 2) f) := hIs (h.2.2.2)
theorem LawS_of {L2 : Nat} {sh2 : Nat → SH} (h : LawS L sh r m1 m2) (hL : L ≤ L2) (hs : ∀ a, a < L → sh2 a = sh a) : LawS L2 sh2 r m1 m2 := ⟨by have := h.1; omega, (hs (r) (by have := h.1; omega)).trans (h.2.1), (hs (r + 1) (by have := h.1; omega)).trans (h.2.2.1), (hs (r + 2) (by have := h.1; omega)).trans (h.2.2.2)⟩
end LawS_S
