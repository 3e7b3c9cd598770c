noncomputable section
/-! a compiled program of the model that can be carried out: by places (dl: numbers on the stack, sg: inside a statement), by regions (pi: finally parts that are open, en: its end, an: its ancestors), br: what a break may leave -/
def iFT (w : eW) (a n p : Int) : Prop := p + 1 < n ∧ w 330 (10000 * a + p + 1) = w 330 (10000 * a + p)
def iS (w : eW) (a n : Int) (dl sg : Int → Int) (p : Int) : Prop := iFT w a n p ∧ dl (p + 1) = 0 ∧ sg (p + 1) = 0 ∧ sg p = 1
def insOk (w : eW) (a n nt nw : Int) (dl sg en : Int → Int) (br : Int → Int → Prop) (p : Int) : Prop :=
  ((1 ≤ w 328 (10000 * a + p) ∧ w 328 (10000 * a + p) ≤ 51 ∧ (w 328 (10000 * a + p) ≤ 24 ∨ 30 ≤ w 328 (10000 * a + p))) ∧ (-1 ≤ w 330 (10000 * a + p) ∧ w 330 (10000 * a + p) < 3 * nt) ∧ (0 ≤ dl p ∧ dl p ≤ 4100) ∧ p < en (w 330 (10000 * a + p)) ∧ (sg p = 0 ∨ sg p = 1)) ∧
  (w 328 (10000 * a + p) < 30 → sg p = 1 ∧ sg (p + 1) = 1 ∧ iFT w a n p) ∧
  (w 328 (10000 * a + p) = 1 ∨ w 328 (10000 * a + p) = 2 ∨ w 328 (10000 * a + p) = 5 ∨ w 328 (10000 * a + p) = 6 ∨ w 328 (10000 * a + p) = 7 ∨ w 328 (10000 * a + p) = 8 → dl (p + 1) = dl p + 1) ∧
  (w 328 (10000 * a + p) = 2 → 0 ≤ w 329 (10000 * a + p) ∧ w 329 (10000 * a + p) ≤ 31) ∧
  (w 328 (10000 * a + p) = 3 ∨ w 328 (10000 * a + p) = 4 ∨ w 328 (10000 * a + p) = 9 ∨ w 328 (10000 * a + p) = 21 ∨ w 328 (10000 * a + p) = 24 → 1 ≤ dl p ∧ dl (p + 1) = dl p) ∧
  (w 328 (10000 * a + p) = 22 ∨ w 328 (10000 * a + p) = 23 → 1 ≤ dl p ∧ dl (p + 1) = dl p - 1 ∧ p < w 329 (10000 * a + p) ∧ w 329 (10000 * a + p) < n ∧ dl (w 329 (10000 * a + p)) = dl p ∧ sg (w 329 (10000 * a + p)) = 1 ∧ w 330 (10000 * a + w 329 (10000 * a + p)) = w 330 (10000 * a + p)) ∧
  (10 ≤ w 328 (10000 * a + p) ∧ w 328 (10000 * a + p) ≤ 20 → 2 ≤ dl p ∧ dl (p + 1) = dl p - 1) ∧
  (w 328 (10000 * a + p) = 30 → dl p = 0 ∧ sg p = 0 ∧ p + 1 < n ∧ dl (p + 1) = 0 ∧ (w 330 (10000 * a + p + 1) = w 330 (10000 * a + p) ∨ ∃ t, 0 ≤ t ∧ t < nt ∧ w 330 (10000 * a + p + 1) = 3 * t ∧ w 331 (900 * a + t) = w 330 (10000 * a + p))) ∧
  (31 ≤ w 328 (10000 * a + p) ∧ w 328 (10000 * a + p) ≤ 44 → iS w a n dl sg p) ∧
  (w 328 (10000 * a + p) = 31 → dl p = 1 ∧ 0 ≤ w 329 (10000 * a + p) ∧ w 329 (10000 * a + p) ≤ 31) ∧
  (w 328 (10000 * a + p) = 32 → dl p = w 329 (10000 * a + p)) ∧
  (w 328 (10000 * a + p) = 33 ∨ w 328 (10000 * a + p) = 34 ∨ w 328 (10000 * a + p) = 36 ∨ w 328 (10000 * a + p) = 37 ∨ w 328 (10000 * a + p) = 40 ∨ w 328 (10000 * a + p) = 41 ∨ w 328 (10000 * a + p) = 44 ∨ w 328 (10000 * a + p) = 47 → dl p = 1) ∧
  (w 328 (10000 * a + p) = 34 → 0 ≤ w 329 (10000 * a + p) ∧ w 329 (10000 * a + p) < n ∧ dl (w 329 (10000 * a + p)) = 0 ∧ w 330 (10000 * a + w 329 (10000 * a + p)) = w 330 (10000 * a + p)) ∧
  (w 328 (10000 * a + p) = 35 → dl p = 2) ∧
  (w 328 (10000 * a + p) = 38 ∨ w 328 (10000 * a + p) = 39 ∨ w 328 (10000 * a + p) = 42 ∨ w 328 (10000 * a + p) = 43 → dl p = 0) ∧
  (w 328 (10000 * a + p) = 38 ∨ w 328 (10000 * a + p) = 39 ∨ w 328 (10000 * a + p) = 44 → 0 ≤ w 329 (10000 * a + p) ∧ w 329 (10000 * a + p) < w 338 a) ∧
  (w 328 (10000 * a + p) = 46 → 0 ≤ w 329 (10000 * a + p) ∧ w 329 (10000 * a + p) < nw ∧ br (w 330 (10000 * a + p)) (w 329 (10000 * a + p)) ∧ p < w 336 (900 * a + w 329 (10000 * a + p))) ∧
  (w 328 (10000 * a + p) = 47 → iS w a n dl sg p ∧ p < w 329 (10000 * a + p) ∧ w 329 (10000 * a + p) < n ∧ dl (w 329 (10000 * a + p)) = 0 ∧ sg (w 329 (10000 * a + p)) = 0 ∧ w 330 (10000 * a + w 329 (10000 * a + p)) = w 330 (10000 * a + p)) ∧
  (w 328 (10000 * a + p) = 48 → sg p = 0 ∧ 0 ≤ w 329 (10000 * a + p) ∧ w 329 (10000 * a + p) < n ∧ dl (w 329 (10000 * a + p)) = 0 ∧ sg (w 329 (10000 * a + p)) = 0 ∧ w 330 (10000 * a + w 329 (10000 * a + p)) = w 330 (10000 * a + p) ∧ (p < w 329 (10000 * a + p) ∨ w 328 (10000 * a + w 329 (10000 * a + p)) = 30)) ∧
  (w 328 (10000 * a + p) = 49 ∨ w 328 (10000 * a + p) = 50 ∨ w 328 (10000 * a + p) = 51 → sg p = 0 ∧ 0 ≤ w 329 (10000 * a + p) ∧ w 329 (10000 * a + p) < nt ∧ w 330 (10000 * a + p) = 3 * w 329 (10000 * a + p) + (w 328 (10000 * a + p) - 49))
/-- a place that is gone to -/
def tgt (w : eW) (a n : Int) (dl sg : Int → Int) (p r : Int) : Prop := 0 ≤ p ∧ p < n ∧ dl p = 0 ∧ sg p = 0 ∧ w 330 (10000 * a + p) = r
def tryOk (w : eW) (a n : Int) (dl sg pi en : Int → Int) (an : Int → Int → Prop) (t : Int) : Prop :=
  (-1 ≤ w 331 (900 * a + t) ∧ w 331 (900 * a + t) < 3 * t) ∧ (pi (3 * t) = pi (w 331 (900 * a + t)) ∧ pi (3 * t + 1) = pi (w 331 (900 * a + t)) ∧ pi (3 * t + 2) = pi (w 331 (900 * a + t)) + 1) ∧
  (w 332 (900 * a + t) < 0 ∨ (tgt w a n dl sg (w 332 (900 * a + t)) (3 * t + 1) ∧ en (3 * t) ≤ w 332 (900 * a + t))) ∧
  (w 333 (900 * a + t) < 0 ∨ (tgt w a n dl sg (w 333 (900 * a + t)) (3 * t + 2) ∧ en (3 * t) ≤ w 333 (900 * a + t) ∧ en (3 * t + 1) ≤ w 333 (900 * a + t))) ∧
  (tgt w a n dl sg (w 334 (900 * a + t)) (w 331 (900 * a + t)) ∧ en (3 * t) ≤ w 334 (900 * a + t) ∧ en (3 * t + 1) ≤ w 334 (900 * a + t) ∧ en (3 * t + 2) ≤ w 334 (900 * a + t) ∧ w 334 (900 * a + t) ≤ en (w 331 (900 * a + t))) ∧
  (∀ i q, 0 ≤ i → i ≤ 2 → an (3 * t + i) q → q = 3 * t + i ∨ an (w 331 (900 * a + t)) q) ∧ (∀ i q, 0 ≤ i → i ≤ 2 → an (w 331 (900 * a + t)) q → an (3 * t + i) q)
def cOk (w : eW) (a n nt nw : Int) (dl sg pi en : Int → Int) (an br : Int → Int → Prop) : Prop :=
  (0 ≤ n ∧ n ≤ 10000 ∧ 0 ≤ nt ∧ nt ≤ 900 ∧ 0 ≤ nw ∧ nw ≤ 900) ∧ (∀ p, 0 ≤ p → p < n → insOk w a n nt nw dl sg en br p) ∧ (∀ t, 0 ≤ t → t < nt → tryOk w a n dl sg pi en an t) ∧
  (pi (-1) = 0 ∧ (∀ r, -1 ≤ r → r < 3 * nt → 0 ≤ pi r ∧ pi r ≤ 30) ∧ (∀ r, an r r) ∧ (∀ q, an (-1) q → q = -1) ∧ (∀ r q, an r q → -1 ≤ r → -1 ≤ q ∧ q ≤ r) ∧ (∀ r q, an r q → -1 ≤ r → r < 3 * nt → pi q ≤ pi r)) ∧
  (∀ v, 0 ≤ v → v < nw → (-1 ≤ w 335 (900 * a + v) ∧ w 335 (900 * a + v) < 3 * nt) ∧ tgt w a n dl sg (w 336 (900 * a + v)) (w 335 (900 * a + v))) ∧
  (∀ r v, br r v → -1 ≤ r → r < 3 * nt → r = w 335 (900 * a + v) ∨ (0 ≤ r ∧ w 334 (900 * a + r / 3) ≤ w 336 (900 * a + v) ∧ br (w 331 (900 * a + r / 3)) v)) ∧
  (∀ q, 0 ≤ q → q < w 338 a → tgt w a n dl sg (w 337 (32 * a + q)) (-1))
/-- the pending entry j of the task t, which belongs to the try ow j -/
def pendOk (w : eW) (a t nt nw : Int) (br : Int → Int → Prop) (ow : Int → Int) (j : Int) : Prop :=
  (0 ≤ ow j ∧ ow j < nt) ∧ (w 276 (1260 * t + 2 * j + 476) = 3 → 0 ≤ w 276 (1260 * t + 2 * j + 477) ∧ w 276 (1260 * t + 2 * j + 477) < nw ∧ br (w 331 (900 * a + ow j)) (w 276 (1260 * t + 2 * j + 477)) ∧ w 334 (900 * a + ow j) ≤ w 336 (900 * a + w 276 (1260 * t + 2 * j + 477)))
def chn (pi ow : Int → Int) (an : Int → Int → Prop) (r b : Int) : Prop := ∀ q, an r q → 0 ≤ q → q % 3 = 2 → ow (b + pi q - 1) = q / 3
/-- frames below the top -/
def lowOk (w : eW) (a t g n : Int) (dl sg pi : Int → Int) (an : Int → Int → Prop) (bs ow : Int → Int) : Prop :=
  bs 0 = 0 ∧ (∀ i, 0 ≤ i → i ≤ g → 0 ≤ bs i ∧ bs i ≤ 30 * i) ∧ (∀ i j, 0 ≤ i → i ≤ j → j ≤ g → bs i ≤ bs j) ∧ ∀ i, 0 ≤ i → i < g → (0 ≤ w 276 (1260 * t + 2 * i + 436) ∧ w 276 (1260 * t + 2 * i + 436) < n) ∧ bs (i + 1) = bs i + pi (w 330 (10000 * a + w 276 (1260 * t + 2 * i + 436))) ∧ chn pi ow an (w 330 (10000 * a + w 276 (1260 * t + 2 * i + 436))) (bs i) ∧
    (w 276 (1260 * t + 2 * i + 439) ≠ 1 → iFT w a n (w 276 (1260 * t + 2 * i + 436)) ∧ dl (w 276 (1260 * t + 2 * i + 436) + 1) = 0 ∧ sg (w 276 (1260 * t + 2 * i + 436) + 1) = 0) ∧ (w 276 (1260 * t + 2 * i + 439) = 1 → dl (w 276 (1260 * t + 2 * i + 436)) = 0 ∧ sg (w 276 (1260 * t + 2 * i + 436)) = 0)
/-- the task t of the arm a has g + 1 frames, and is about to leave (or is in) the region r of its top frame -/
def runOk (w : eW) (a t g r n nt nw : Int) (dl sg pi : Int → Int) (an br : Int → Int → Prop) (bs ow : Int → Int) : Prop :=
  (0 ≤ g ∧ g ≤ 19) ∧ w 276 (1260 * t + 428) = g + 1 ∧ lowOk w a t g n dl sg pi an bs ow ∧ (-1 ≤ r ∧ r < 3 * nt) ∧ w 276 (1260 * t + 429) = bs g + pi r ∧ chn pi ow an r (bs g) ∧ ∀ j, 0 ≤ j → j < bs g + pi r → pendOk w a t nt nw br ow j
/-- .. and stands at the place p -/
def topOk (w : eW) (a t g p n nt nw : Int) (dl sg pi : Int → Int) (an br : Int → Int → Prop) (bs ow : Int → Int) : Prop :=
  (0 ≤ p ∧ p < n) ∧ w 276 (1260 * t + 2 * g + 436) = p ∧ runOk w a t g (w 330 (10000 * a + p)) n nt nw dl sg pi an br bs ow
end
