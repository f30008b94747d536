/-! LAYER 2: the invariant between the class and the model -/
/-- what a square is, in the numbers of the model -/
def PB (w : Nat → Int) : Prop :=
  (0 ≤ w 0 ∧ w 0 ≤ 1600) ∧
  (0 ≤ w 1 ∧ w 1 ≤ 30) ∧
  (0 ≤ w 2 ∧ w 2 ≤ 30) ∧
  (0 ≤ w 3 ∧ w 3 ≤ 29) ∧
  (0 ≤ w 4 ∧ w 4 ≤ 29) ∧
  (0 ≤ w 5 ∧ w 5 ≤ 9) ∧
  (0 ≤ w 6 ∧ w 6 ≤ 60) ∧
  (-1 ≤ w 7 ∧ w 7 ≤ 29) ∧
  (0 ≤ w 8 ∧ w 8 ≤ 20) ∧
  (0 ≤ w 9 ∧ w 9 ≤ 60) ∧
  (0 ≤ w 10 ∧ w 10 ≤ 5) ∧
  (0 ≤ w 11 ∧ w 11 ≤ 8) ∧
  (0 ≤ w 12 ∧ w 12 ≤ 6) ∧
  (-1 ≤ w 22 ∧ w 22 ≤ 20) ∧
  (w 0 = 0 ↔ w 1 = 0) ∧
  (w 1 = 0 → w 2 = 0 ∧ w 10 = 0 ∧ w 11 = 0 ∧ w 7 = -1) ∧
  (w 1 ≠ 0 → w 3 < w 1 ∧ w 4 < w 2 ∧ 5 ≤ w 1 ∧ 5 ≤ w 2) ∧
  (w 7 = -1 ∨ w 7 < w 2) ∧
  (∀ s : Nat, (s : Int) < w 10 → 0 ≤ w (25 + 2 * s) ∧ w (25 + 2 * s) ≤ 99 ∧ 1 ≤ w (26 + 2 * s) ∧ w (26 + 2 * s) ≤ 9) ∧
  (∀ k : Nat, (k : Int) < w 11 → 0 ≤ w (35 + 3 * k) ∧ w (35 + 3 * k) < w 1 ∧ 0 ≤ w (36 + 3 * k) ∧ w (36 + 3 * k) < w 2 ∧ 0 ≤ w (37 + 3 * k) ∧ w (37 + 3 * k) ≤ 999) ∧
  (∀ k : Nat, (k : Int) < w 12 → 0 ≤ w (59 + 2 * k) ∧ w (59 + 2 * k) ≤ 9 ∧ 0 ≤ w (60 + 2 * k) ∧ w (60 + 2 * k) ≤ 60)
theorem PB.b0 {w : Nat → Int} (h : PB w) : 0 ≤ w 0 ∧ w 0 ≤ 1600 := h.1
theorem PB.b1 {w : Nat → Int} (h : PB w) : 0 ≤ w 1 ∧ w 1 ≤ 30 := h.2.1
theorem PB.b2 {w : Nat → Int} (h : PB w) : 0 ≤ w 2 ∧ w 2 ≤ 30 := h.2.2.1
theorem PB.b3 {w : Nat → Int} (h : PB w) : 0 ≤ w 3 ∧ w 3 ≤ 29 := h.2.2.2.1
theorem PB.b4 {w : Nat → Int} (h : PB w) : 0 ≤ w 4 ∧ w 4 ≤ 29 := h.2.2.2.2.1
theorem PB.b5 {w : Nat → Int} (h : PB w) : 0 ≤ w 5 ∧ w 5 ≤ 9 := h.2.2.2.2.2.1
theorem PB.b6 {w : Nat → Int} (h : PB w) : 0 ≤ w 6 ∧ w 6 ≤ 60 := h.2.2.2.2.2.2.1
theorem PB.b7 {w : Nat → Int} (h : PB w) : -1 ≤ w 7 ∧ w 7 ≤ 29 := h.2.2.2.2.2.2.2.1
theorem PB.b8 {w : Nat → Int} (h : PB w) : 0 ≤ w 8 ∧ w 8 ≤ 20 := h.2.2.2.2.2.2.2.2.1
theorem PB.b9 {w : Nat → Int} (h : PB w) : 0 ≤ w 9 ∧ w 9 ≤ 60 := h.2.2.2.2.2.2.2.2.2.1
theorem PB.b10 {w : Nat → Int} (h : PB w) : 0 ≤ w 10 ∧ w 10 ≤ 5 := h.2.2.2.2.2.2.2.2.2.2.1
theorem PB.b11 {w : Nat → Int} (h : PB w) : 0 ≤ w 11 ∧ w 11 ≤ 8 := h.2.2.2.2.2.2.2.2.2.2.2.1
theorem PB.b12 {w : Nat → Int} (h : PB w) : 0 ≤ w 12 ∧ w 12 ≤ 6 := h.2.2.2.2.2.2.2.2.2.2.2.2.1
theorem PB.b22 {w : Nat → Int} (h : PB w) : -1 ≤ w 22 ∧ w 22 ≤ 20 := h.2.2.2.2.2.2.2.2.2.2.2.2.2.1
theorem PB.sq {w : Nat → Int} (h : PB w) : w 0 = 0 ↔ w 1 = 0 := h.2.2.2.2.2.2.2.2.2.2.2.2.2.2.1
theorem PB.none {w : Nat → Int} (h : PB w) : w 1 = 0 → w 2 = 0 ∧ w 10 = 0 ∧ w 11 = 0 ∧ w 7 = -1 := h.2.2.2.2.2.2.2.2.2.2.2.2.2.2.2.1
theorem PB.some {w : Nat → Int} (h : PB w) : w 1 ≠ 0 → w 3 < w 1 ∧ w 4 < w 2 ∧ 5 ≤ w 1 ∧ 5 ≤ w 2 := h.2.2.2.2.2.2.2.2.2.2.2.2.2.2.2.2.1
theorem PB.road {w : Nat → Int} (h : PB w) : w 7 = -1 ∨ w 7 < w 2 := h.2.2.2.2.2.2.2.2.2.2.2.2.2.2.2.2.2.1
theorem PB.size {w : Nat → Int} (h : PB w) : ∀ s : Nat, (s : Int) < w 10 → 0 ≤ w (25 + 2 * s) ∧ w (25 + 2 * s) ≤ 99 ∧ 1 ≤ w (26 + 2 * s) ∧ w (26 + 2 * s) ≤ 9 := h.2.2.2.2.2.2.2.2.2.2.2.2.2.2.2.2.2.2.1
theorem PB.tab {w : Nat → Int} (h : PB w) : ∀ k : Nat, (k : Int) < w 11 → 0 ≤ w (35 + 3 * k) ∧ w (35 + 3 * k) < w 1 ∧ 0 ≤ w (36 + 3 * k) ∧ w (36 + 3 * k) < w 2 ∧ 0 ≤ w (37 + 3 * k) ∧ w (37 + 3 * k) ≤ 999 := h.2.2.2.2.2.2.2.2.2.2.2.2.2.2.2.2.2.2.2.1
theorem PB.rule {w : Nat → Int} (h : PB w) : ∀ k : Nat, (k : Int) < w 12 → 0 ≤ w (59 + 2 * k) ∧ w (59 + 2 * k) ≤ 9 ∧ 0 ≤ w (60 + 2 * k) ∧ w (60 + 2 * k) ≤ 60 := h.2.2.2.2.2.2.2.2.2.2.2.2.2.2.2.2.2.2.2.2
/-- the height that k rules let stand at a strength -/
def letsR (w : Nat → Int) (st : Int) : Nat → Int
  | 0 => 60
  | k + 1 => if w (59 + 2 * k) ≤ st then w (60 + 2 * k) else letsR w st k
/-- a plan of the class and the model's square -/
def PR (P : Ob) (w : Nat → Int) : Prop :=
  (P 0 0 = w 0) ∧
  (P 1 0 = w 1) ∧
  (P 2 0 = w 2) ∧
  (P 3 0 = w 3) ∧
  (P 4 0 = w 4) ∧
  (P 5 0 = w 5) ∧
  (P 6 0 = w 6) ∧
  (P 7 0 = w 7) ∧
  (P 8 0 = w 8) ∧
  (P 9 0 = w 22) ∧
  (P 10 0 = w 9) ∧
  (P 11 0 = w 10) ∧
  (P 14 0 = w 11) ∧
  (P 18 0 = w 12) ∧
  (∀ s : Nat, (s : Int) < w 10 → P 12 s = w (25 + 2 * s) ∧ P 13 s = w (26 + 2 * s)) ∧
  (∀ k : Nat, (k : Int) < w 11 → P 15 k = w (35 + 3 * k) ∧ P 16 k = w (36 + 3 * k) ∧ P 17 k = w (37 + 3 * k)) ∧
  (∀ s : Nat, s < 10 → P 19 s = letsR w (s : Int) (w 12).toNat)
theorem PR.p0 {P : Ob} {w : Nat → Int} (h : PR P w) : P 0 0 = w 0 := h.1
theorem PR.p1 {P : Ob} {w : Nat → Int} (h : PR P w) : P 1 0 = w 1 := h.2.1
theorem PR.p2 {P : Ob} {w : Nat → Int} (h : PR P w) : P 2 0 = w 2 := h.2.2.1
theorem PR.p3 {P : Ob} {w : Nat → Int} (h : PR P w) : P 3 0 = w 3 := h.2.2.2.1
theorem PR.p4 {P : Ob} {w : Nat → Int} (h : PR P w) : P 4 0 = w 4 := h.2.2.2.2.1
theorem PR.p5 {P : Ob} {w : Nat → Int} (h : PR P w) : P 5 0 = w 5 := h.2.2.2.2.2.1
theorem PR.p6 {P : Ob} {w : Nat → Int} (h : PR P w) : P 6 0 = w 6 := h.2.2.2.2.2.2.1
theorem PR.p7 {P : Ob} {w : Nat → Int} (h : PR P w) : P 7 0 = w 7 := h.2.2.2.2.2.2.2.1
theorem PR.p8 {P : Ob} {w : Nat → Int} (h : PR P w) : P 8 0 = w 8 := h.2.2.2.2.2.2.2.2.1
theorem PR.p9 {P : Ob} {w : Nat → Int} (h : PR P w) : P 9 0 = w 22 := h.2.2.2.2.2.2.2.2.2.1
theorem PR.p10 {P : Ob} {w : Nat → Int} (h : PR P w) : P 10 0 = w 9 := h.2.2.2.2.2.2.2.2.2.2.1
theorem PR.p11 {P : Ob} {w : Nat → Int} (h : PR P w) : P 11 0 = w 10 := h.2.2.2.2.2.2.2.2.2.2.2.1
theorem PR.p14 {P : Ob} {w : Nat → Int} (h : PR P w) : P 14 0 = w 11 := h.2.2.2.2.2.2.2.2.2.2.2.2.1
theorem PR.p18 {P : Ob} {w : Nat → Int} (h : PR P w) : P 18 0 = w 12 := h.2.2.2.2.2.2.2.2.2.2.2.2.2.1
theorem PR.size {P : Ob} {w : Nat → Int} (h : PR P w) : ∀ s : Nat, (s : Int) < w 10 → P 12 s = w (25 + 2 * s) ∧ P 13 s = w (26 + 2 * s) := h.2.2.2.2.2.2.2.2.2.2.2.2.2.2.1
theorem PR.tab {P : Ob} {w : Nat → Int} (h : PR P w) : ∀ k : Nat, (k : Int) < w 11 → P 15 k = w (35 + 3 * k) ∧ P 16 k = w (36 + 3 * k) ∧ P 17 k = w (37 + 3 * k) := h.2.2.2.2.2.2.2.2.2.2.2.2.2.2.2.1
theorem PR.lets {P : Ob} {w : Nat → Int} (h : PR P w) : ∀ s : Nat, s < 10 → P 19 s = letsR w (s : Int) (w 12).toNat := h.2.2.2.2.2.2.2.2.2.2.2.2.2.2.2.2
/-- a finite sum -/
def sm (f : Nat → Int) : Nat → Int
  | 0 => 0
  | n + 1 => sm f n + f n
/-- how many lumps are up, how many drops a lump has -/
def upN (A : Ob) : Int := sm (fun i => if 0 < A 9 i then 1 else 0) 32
def shS (w : Nat → Int) : Int := sm (fun s => w (26 + 2 * s)) (w 10).toNat
/-- where the lump of beat b lies in the ring of the class, and in the world of the model -/
def rg (b : Nat) : Nat := (b + 31) % 32
def lm (b : Nat) : Nat := 103 + 13 * (b % 32)
/-- beat b is in the ring's window -/
def inW (w : Nat → Int) (b : Nat) : Prop := 1 ≤ b ∧ (b : Int) ≤ w 14 ∧ w 14 < (b : Int) + 32
/-- bounds of what beats have done -/
def AB (w : Nat → Int) (B : Int) : Prop :=
  (0 ≤ w 14 ∧ w 14 ≤ B) ∧
  (0 ≤ w 15 ∧ w 15 ≤ 60) ∧
  (0 ≤ w 16 ∧ w 16 ≤ 60 * w 14) ∧
  (0 ≤ w 18) ∧
  (0 ≤ w 19) ∧
  (0 ≤ w 20) ∧
  (w 18 + w 19 + w 20 ≤ w 21 ∧ w 21 ≤ 45 * w 14) ∧
  (∀ c : Nat, c < 900 → 0 ≤ w (519 + c) ∧ w (519 + c) ≤ w 20) ∧
  (∀ b : Nat, inW w b → 0 ≤ w (71 + b % 32) ∧ w (71 + b % 32) ≤ 39)
theorem AB.beats {w : Nat → Int} {B : Int} (h : AB w B) : 0 ≤ w 14 ∧ w 14 ≤ B := h.1
theorem AB.high {w : Nat → Int} {B : Int} (h : AB w B) : 0 ≤ w 15 ∧ w 15 ≤ 60 := h.2.1
theorem AB.show {w : Nat → Int} {B : Int} (h : AB w B) : 0 ≤ w 16 ∧ w 16 ≤ 60 * w 14 := h.2.2.1
theorem AB.caught {w : Nat → Int} {B : Int} (h : AB w B) : 0 ≤ w 18 := h.2.2.2.1
theorem AB.lost {w : Nat → Int} {B : Int} (h : AB w B) : 0 ≤ w 19 := h.2.2.2.2.1
theorem AB.cells {w : Nat → Int} {B : Int} (h : AB w B) : 0 ≤ w 20 := h.2.2.2.2.2.1
theorem AB.thrown {w : Nat → Int} {B : Int} (h : AB w B) : w 18 + w 19 + w 20 ≤ w 21 ∧ w 21 ≤ 45 * w 14 := h.2.2.2.2.2.2.1
theorem AB.wet {w : Nat → Int} {B : Int} (h : AB w B) : ∀ c : Nat, c < 900 → 0 ≤ w (519 + c) ∧ w (519 + c) ≤ w 20 := h.2.2.2.2.2.2.2.1
theorem AB.wind {w : Nat → Int} {B : Int} (h : AB w B) : ∀ b : Nat, inW w b → 0 ≤ w (71 + b % 32) ∧ w (71 + b % 32) ≤ 39 := h.2.2.2.2.2.2.2.2
/-- what is in the air of the class, and in the world of the model -/
def AR (A : Ob) (w : Nat → Int) : Prop :=
  (A 0 0 = w 14) ∧
  (A 1 0 = w 15) ∧
  (A 2 0 = w 16) ∧
  (A 4 0 = w 18) ∧
  (A 5 0 = w 19) ∧
  (A 6 0 = w 20) ∧
  (A 7 0 = w 21) ∧
  (∀ c : Nat, c < 900 → A 16 c = w (519 + c)) ∧
  (∀ b : Nat, inW w b → A 8 (rg b) = w (71 + b % 32)) ∧
  (∀ b : Nat, inW w b → 0 ≤ A 9 (rg b) ∧ A 9 (rg b) ≤ 11) ∧
  (∀ b : Nat, inW w b → A 9 (rg b) = 0 → 0 ≤ w (lm b) ∧ w (lm b) ≤ w 14) ∧
  (∀ b : Nat, inW w b → 0 < A 9 (rg b) → w (lm b) = b + 2 * A 9 (rg b) ∧ w 14 < w (lm b) ∧ A 10 (rg b) = w (lm b + 1) ∧ A 11 (rg b) = w (lm b + 2) ∧ 0 ≤ w (lm b + 1) ∧ w (lm b + 1) ≤ 29 ∧ 0 ≤ w (lm b + 2) ∧ w (lm b + 2) ≤ 29) ∧
  (∀ b : Nat, inW w b → 0 < A 9 (rg b) → ∀ s : Nat, (s : Int) < w 10 → A 12 s - A 14 (5 * rg b + s) = w (lm b + 3 + 2 * s) ∧ A 13 s - A 15 (5 * rg b + s) = w (lm b + 4 + 2 * s)) ∧
  (∀ b : Nat, inW w b → 0 < A 9 (rg b) → ∀ s : Nat, (s : Int) < w 10 → -(891 * (w 14 - b)) ≤ w (lm b + 3 + 2 * s) ∧ w (lm b + 3 + 2 * s) ≤ 891 * (w 14 - b) ∧ -(891 * (w 14 - b)) ≤ w (lm b + 4 + 2 * s) ∧ w (lm b + 4 + 2 * s) ≤ 891 * (w 14 - b)) ∧
  (w 21 - w 18 - w 19 - w 20 = upN A * shS w) ∧
  (∀ i : Nat, i < 32 → w 14 ≤ (i : Int) → A 9 i = 0) ∧
  (∀ s : Nat, (s : Int) < w 10 → -(891 * w 14) ≤ A 12 s ∧ A 12 s ≤ 891 * w 14 ∧ -(891 * w 14) ≤ A 13 s ∧ A 13 s ≤ 891 * w 14)
theorem AR.a0 {A : Ob} {w : Nat → Int} (h : AR A w) : A 0 0 = w 14 := h.1
theorem AR.a1 {A : Ob} {w : Nat → Int} (h : AR A w) : A 1 0 = w 15 := h.2.1
theorem AR.a2 {A : Ob} {w : Nat → Int} (h : AR A w) : A 2 0 = w 16 := h.2.2.1
theorem AR.a4 {A : Ob} {w : Nat → Int} (h : AR A w) : A 4 0 = w 18 := h.2.2.2.1
theorem AR.a5 {A : Ob} {w : Nat → Int} (h : AR A w) : A 5 0 = w 19 := h.2.2.2.2.1
theorem AR.a6 {A : Ob} {w : Nat → Int} (h : AR A w) : A 6 0 = w 20 := h.2.2.2.2.2.1
theorem AR.a7 {A : Ob} {w : Nat → Int} (h : AR A w) : A 7 0 = w 21 := h.2.2.2.2.2.2.1
theorem AR.wet {A : Ob} {w : Nat → Int} (h : AR A w) : ∀ c : Nat, c < 900 → A 16 c = w (519 + c) := h.2.2.2.2.2.2.2.1
theorem AR.wind {A : Ob} {w : Nat → Int} (h : AR A w) : ∀ b : Nat, inW w b → A 8 (rg b) = w (71 + b % 32) := h.2.2.2.2.2.2.2.2.1
theorem AR.pace {A : Ob} {w : Nat → Int} (h : AR A w) : ∀ b : Nat, inW w b → 0 ≤ A 9 (rg b) ∧ A 9 (rg b) ≤ 11 := h.2.2.2.2.2.2.2.2.2.1
theorem AR.down {A : Ob} {w : Nat → Int} (h : AR A w) : ∀ b : Nat, inW w b → A 9 (rg b) = 0 → 0 ≤ w (lm b) ∧ w (lm b) ≤ w 14 := h.2.2.2.2.2.2.2.2.2.2.1
theorem AR.up {A : Ob} {w : Nat → Int} (h : AR A w) : ∀ b : Nat, inW w b → 0 < A 9 (rg b) → w (lm b) = b + 2 * A 9 (rg b) ∧ w 14 < w (lm b) ∧ A 10 (rg b) = w (lm b + 1) ∧ A 11 (rg b) = w (lm b + 2) ∧ 0 ≤ w (lm b + 1) ∧ w (lm b + 1) ≤ 29 ∧ 0 ≤ w (lm b + 2) ∧ w (lm b + 2) ≤ 29 := h.2.2.2.2.2.2.2.2.2.2.2.1
theorem AR.drift {A : Ob} {w : Nat → Int} (h : AR A w) : ∀ b : Nat, inW w b → 0 < A 9 (rg b) → ∀ s : Nat, (s : Int) < w 10 → A 12 s - A 14 (5 * rg b + s) = w (lm b + 3 + 2 * s) ∧ A 13 s - A 15 (5 * rg b + s) = w (lm b + 4 + 2 * s) := h.2.2.2.2.2.2.2.2.2.2.2.2.1
theorem AR.driftB {A : Ob} {w : Nat → Int} (h : AR A w) : ∀ b : Nat, inW w b → 0 < A 9 (rg b) → ∀ s : Nat, (s : Int) < w 10 → -(891 * (w 14 - b)) ≤ w (lm b + 3 + 2 * s) ∧ w (lm b + 3 + 2 * s) ≤ 891 * (w 14 - b) ∧ -(891 * (w 14 - b)) ≤ w (lm b + 4 + 2 * s) ∧ w (lm b + 4 + 2 * s) ≤ 891 * (w 14 - b) := h.2.2.2.2.2.2.2.2.2.2.2.2.2.1
theorem AR.cons {A : Ob} {w : Nat → Int} (h : AR A w) : w 21 - w 18 - w 19 - w 20 = upN A * shS w := h.2.2.2.2.2.2.2.2.2.2.2.2.2.2.1
theorem AR.free {A : Ob} {w : Nat → Int} (h : AR A w) : ∀ i : Nat, i < 32 → w 14 ≤ (i : Int) → A 9 i = 0 := h.2.2.2.2.2.2.2.2.2.2.2.2.2.2.2.1
theorem AR.sumB {A : Ob} {w : Nat → Int} (h : AR A w) : ∀ s : Nat, (s : Int) < w 10 → -(891 * w 14) ≤ A 12 s ∧ A 12 s ≤ 891 * w 14 ∧ -(891 * w 14) ≤ A 13 s ∧ A 13 s ≤ 891 * w 14 := h.2.2.2.2.2.2.2.2.2.2.2.2.2.2.2.2
/-- a scene of the class and a world of the model -/
def WR (P A : Ob) (w : Nat → Int) (B : Int) : Prop :=
  (PB w) ∧
  (PR P w) ∧
  (AB w B) ∧
  (AR A w)
theorem WR.pb {P A : Ob} {w : Nat → Int} {B : Int} (h : WR P A w B) : PB w := h.1
theorem WR.pr {P A : Ob} {w : Nat → Int} {B : Int} (h : WR P A w B) : PR P w := h.2.1
theorem WR.ab {P A : Ob} {w : Nat → Int} {B : Int} (h : WR P A w B) : AB w B := h.2.2.1
theorem WR.ar {P A : Ob} {w : Nat → Int} {B : Int} (h : WR P A w B) : AR A w := h.2.2.2
/-- a row -/
def RR (R : Ob) (M : Ob) (j : Nat) : Prop :=
  ((R 0 0 = 0 ∧ M 25 j = -1) ∨ (R 0 0 = 1 ∧ 0 ≤ M 25 j ∧ M 25 j ≤ 60)) ∧
  (M 25 j ≠ -1 → R 2 0 = M 25 j ∧ R 1 0 = M 26 j ∧ 0 ≤ M 26 j ∧ M 26 j ≤ 3) ∧
  (M 25 j ≠ -1 → ∀ i : Nat, i < 60 → R 3 i = M 27 (60 * j + i) ∧ -9223372036854775808 ≤ R 3 i ∧ R 3 i ≤ 9223372036854775807)
theorem RR.has {R : Ob} {M : Ob} {j : Nat} (h : RR R M j) : (R 0 0 = 0 ∧ M 25 j = -1) ∨ (R 0 0 = 1 ∧ 0 ≤ M 25 j ∧ M 25 j ≤ 60) := h.1
theorem RR.len {R : Ob} {M : Ob} {j : Nat} (h : RR R M j) : M 25 j ≠ -1 → R 2 0 = M 25 j ∧ R 1 0 = M 26 j ∧ 0 ≤ M 26 j ∧ M 26 j ≤ 3 := h.2.1
theorem RR.num {R : Ob} {M : Ob} {j : Nat} (h : RR R M j) : M 25 j ≠ -1 → ∀ i : Nat, i < 60 → R 3 i = M 27 (60 * j + i) ∧ -9223372036854775808 ≤ R 3 i ∧ R 3 i ≤ 9223372036854775807 := h.2.2
/-- the tape -/
def TR (Y : Ob) (M : Ob) : Prop :=
  (Y 1 0 = M 5 0) ∧
  (0 ≤ M 5 0 ∧ M 5 0 ≤ 1600) ∧
  (∀ k : Nat, (k : Int) < M 5 0 → Y 0 k = M 4 k ∧ -128 ≤ Y 0 k ∧ Y 0 k ≤ 127)
theorem TR.len {Y : Ob} {M : Ob} (h : TR Y M) : Y 1 0 = M 5 0 := h.1
theorem TR.b {Y : Ob} {M : Ob} (h : TR Y M) : 0 ≤ M 5 0 ∧ M 5 0 ≤ 1600 := h.2.1
theorem TR.byte {Y : Ob} {M : Ob} (h : TR Y M) : ∀ k : Nat, (k : Int) < M 5 0 → Y 0 k = M 4 k ∧ -128 ≤ Y 0 k ∧ Y 0 k ≤ 127 := h.2.2
/-- the invariant, behind n calls -/
def Inv (n : Nat) (T : Nat → Ob) (J : Nat → Bool) (M : Ob) : Prop :=
  (n ≤ 512) ∧
  (TR (T 0) M) ∧
  (T 1 2 0 = M 12 0 ∧ T 1 3 0 = M 13 0) ∧
  (WR (T 2) (T 3) (M 1) (400 * n)) ∧
  (T 3 3 0 = M 1 17) ∧
  (M 1 22 = -1) ∧
  (M 1 23 = 0) ∧
  (M 1 24 = 1) ∧
  (∀ j : Nat, j < 4 → RR (T (6 + j)) M j) ∧
  (∀ k : Nat, k < 3 → M 3 k = if J k = true then 1 else 0) ∧
  (∀ k : Nat, k < 3 → J k = true → WR (T (15 + 3 * k)) (T (16 + 3 * k)) (fun i => M 2 (1419 * k + i)) (400 * n) ∧ T (16 + 3 * k) 3 0 = M 2 (1419 * k + 17) ∧ M 2 (1419 * k + 22) = -1 ∧ M 2 (1419 * k + 23) = 0 ∧ M 2 (1419 * k + 24) = 1)
theorem Inv.n {n : Nat} {T : Nat → Ob} {J : Nat → Bool} {M : Ob} (h : Inv n T J M) : n ≤ 512 := h.1
theorem Inv.tape {n : Nat} {T : Nat → Ob} {J : Nat → Bool} {M : Ob} (h : Inv n T J M) : TR (T 0) M := h.2.1
theorem Inv.fault {n : Nat} {T : Nat → Ob} {J : Nat → Bool} {M : Ob} (h : Inv n T J M) : T 1 2 0 = M 12 0 ∧ T 1 3 0 = M 13 0 := h.2.2.1
theorem Inv.now {n : Nat} {T : Nat → Ob} {J : Nat → Bool} {M : Ob} (h : Inv n T J M) : WR (T 2) (T 3) (M 1) (400 * n) := h.2.2.2.1
theorem Inv.seen {n : Nat} {T : Nat → Ob} {J : Nat → Bool} {M : Ob} (h : Inv n T J M) : T 3 3 0 = M 1 17 := h.2.2.2.2.1
theorem Inv.l2 {n : Nat} {T : Nat → Ob} {J : Nat → Bool} {M : Ob} (h : Inv n T J M) : M 1 22 = -1 := h.2.2.2.2.2.1
theorem Inv.still {n : Nat} {T : Nat → Ob} {J : Nat → Bool} {M : Ob} (h : Inv n T J M) : M 1 23 = 0 := h.2.2.2.2.2.2.1
theorem Inv.rep {n : Nat} {T : Nat → Ob} {J : Nat → Bool} {M : Ob} (h : Inv n T J M) : M 1 24 = 1 := h.2.2.2.2.2.2.2.1
theorem Inv.row {n : Nat} {T : Nat → Ob} {J : Nat → Bool} {M : Ob} (h : Inv n T J M) : ∀ j : Nat, j < 4 → RR (T (6 + j)) M j := h.2.2.2.2.2.2.2.2.1
theorem Inv.has {n : Nat} {T : Nat → Ob} {J : Nat → Bool} {M : Ob} (h : Inv n T J M) : ∀ k : Nat, k < 3 → M 3 k = if J k = true then 1 else 0 := h.2.2.2.2.2.2.2.2.2.1
theorem Inv.img {n : Nat} {T : Nat → Ob} {J : Nat → Bool} {M : Ob} (h : Inv n T J M) : ∀ k : Nat, k < 3 → J k = true → WR (T (15 + 3 * k)) (T (16 + 3 * k)) (fun i => M 2 (1419 * k + i)) (400 * n) ∧ T (16 + 3 * k) 3 0 = M 2 (1419 * k + 17) ∧ M 2 (1419 * k + 22) = -1 ∧ M 2 (1419 * k + 23) = 0 ∧ M 2 (1419 * k + 24) = 1 := h.2.2.2.2.2.2.2.2.2.2
