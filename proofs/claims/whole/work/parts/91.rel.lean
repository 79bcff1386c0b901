/-! THE RELATION of class and reference, between two calls: rRel S -/
/-- x is a number from a to b -/
def rN (x : Int32) (a b : Nat) : Prop := ∃ n : Nat, x = nI n ∧ a ≤ n ∧ n ≤ b
def rCt (c : Nat → Nat) : Prop := (c 1000 = c 0 ∧ c 1001 = c 1 ∧ c 1002 = c 2) ∧ (∀ i, i < 6 → c (1010 + i) = c (10 + i)) ∧ (∀ i, i < 6 → c 0 ≤ i → c (10 + i) = 0) ∧ (c 3 = 1 ∧ c 4 = 1 ∧ c 5 = 1) ∧ c 0 ≤ 6 ∧ c 1 ≤ 8 ∧ c 2 ≤ 6 ∧ ∀ i, i < 6 → c (10 + i) ≤ 8
def rPi (S : zSt) : Prop := ∀ i, i < sc S 0 → ((sV S (1100 + i) 576 = sV S (100 + i) 352 ∧ rN (sV S (100 + i) 352) 0 99) ∧ (sV S (1100 + i) 577 = sV S (100 + i) 353 ∧ rN (sV S (100 + i) 353) 0 9) ∧ sV S (1100 + i) 578 = sV S (100 + i) 354) ∧ ∀ j, j < 10 → sW S (1110 + i) j = sW S (110 + i) j ∧ rN (sW S (110 + i) j) 0 600
def rAc (S : zSt) : Prop := ∀ a, a < sc S 1 → sV S (140 + a) 160 = nI a ∧ (sV S (1140 + a) 544 = sV S (140 + a) 161 ∧ rN (sV S (140 + a) 161) 5 60) ∧ (sV S (1140 + a) 545 = sV S (140 + a) 162 ∧ rN (sV S (140 + a) 162) 0 9) ∧ (sV S (1140 + a) 546 = sV S (140 + a) 163 ∧ rN (sV S (140 + a) 163) 1 9) ∧ sV S (1140 + a) 548 = sV S (140 + a) 164 ∧ (sV S (1140 + a) 547 = sV S (140 + a) 165 ∧ rN (sV S (140 + a) 165) 1 9) ∧ (sV S (1140 + a) 549 = sV S (140 + a) 166 ∧ (sV S (140 + a) 166 = 0 ∨ sV S (140 + a) 166 = 1)) ∧ sV S (1140 + a) 550 = sV S (140 + a) 167
def rGr (S : zSt) : Prop := ∀ a, a < sc S 1 → (∃ g, g < sc S 1 ∧ sV S (1140 + a) 551 = nI g) ∧ ∀ b, b < 32 → bt (sV S (140 + a) 168) b = (decide (b < sc S 1) && decide (sV S (1140 + b) 551 = sV S (1140 + a) 551))
def rCu (n : Nat) (W : Nat → Nat → Int32) : Prop := (∀ a b, a < 8 → b < 8 → (W (1030 + a) b = 0 ∨ W (1030 + a) b = 1) ∧ bt (W 9 b) a = !decide (W (1030 + a) b = 0) ∧ (¬ W (1030 + a) b = 0 → a < n ∧ b < n)) ∧ (∀ b a, b < 8 → 8 ≤ a → a < 32 → bt (W 9 b) a = false) ∧ ∃ rk : Nat → Nat, ∀ a, a < 8 → rk a < 8 ∧ ∀ b, b < 8 → ¬ W (1030 + a) b = 0 → rk b < rk a
def rTu (S : zSt) : Prop := ∀ i k, i < sc S 0 → k < sc S (10 + i) → (sT S i k < sc S 1 ∧ sV S (1160 + 8 * i + k) 608 = nI (sT S i k)) ∧ (sV S (1160 + 8 * i + k) 609 = (if sV S (160 + 8 * i + k) 423 = 0 then -1 else sV S (160 + 8 * i + k) 417) ∧ (¬ sV S (160 + 8 * i + k) 423 = 0 → ¬ sV S (160 + 8 * i + k) 417 = -1)) ∧ sV S (1160 + 8 * i + k) 610 = sV S (160 + 8 * i + k) 418 ∧ sV S (1160 + 8 * i + k) 611 = sV S (160 + 8 * i + k) 419 ∧ sV S (1160 + 8 * i + k) 612 = sV S (160 + 8 * i + k) 420 ∧ sV S (1160 + 8 * i + k) 613 = sV S (160 + 8 * i + k) 421 ∧ sV S (1160 + 8 * i + k) 614 = sV S (160 + 8 * i + k) 422 ∧ sV S (1160 + 8 * i + k) 615 = sV S (160 + 8 * i + k) 424 ∧ (sV S (160 + 8 * i + k) 424 = 0 ∨ sV S (160 + 8 * i + k) 424 = 1)
/-- no act on two pitches -/
def rOn (S : zSt) : Prop := ∀ i j k m, i < sc S 0 → j < sc S 0 → k < sc S (10 + i) → m < sc S (10 + j) → i ≠ j → sT S i k ≠ sT S j m
def rVi (S : zSt) : Prop := ∀ j, j < sc S 2 → (sP S j < sc S 0 ∧ sV S (1150 + j) 640 = nI (sP S j)) ∧ (sV S (1150 + j) 641 = sV S (150 + j) 449 ∧ rN (sV S (150 + j) 449) 600 1199) ∧ (sV S (1150 + j) 642 = sV S (150 + j) 450 ∧ zCh (sV S (150 + j) 450)) ∧ sV S (1150 + j) 643 = sV S (150 + j) 451
def rLo (S : zSt) : Prop := (sc S 1003 ≤ 8 ∧ sc S 1003 ≤ sc S 1 ∧ sV S 4 323 = nI (sc S 1003)) ∧ (∀ j, j < sc S 1003 → ∃ a, a < sc S 1 ∧ sW S 11 j = nI a ∧ sV S (1300 + j) 32 = nI a) ∧ sV S 1001 679 = sV S 4 324 ∧ (∃ z, 1 ≤ z ∧ z < 2147483647 ∧ sV S 4 325 = nI z ∧ sV S 1001 681 = nI z) ∧ (sV S 4 324 = 0 → sc S 1003 = 0) ∧ fAllow S (sc S 1003)
def rWe (S : zSt) : Prop := (sV S 1001 682 = sV S 5 480 ∧ sV S 1001 683 = sV S 5 481 ∧ ((sV S 5 480 = 0 ∧ sV S 5 481 = -1) ∨ ∃ a b : Nat, sV S 5 480 = nI a ∧ sV S 5 481 = nI b ∧ a ≤ b ∧ b < 1200)) ∧ (sV S 1001 684 = sV S 5 482 ∧ rN (sV S 5 482) 0 40) ∧ (sV S 1001 685 = sV S 6 288 ∧ rN (sV S 6 288) 0 99) ∧ sV S 1001 686 = sV S 6 289 ∧ rN (sV S 6 289) 0 99
def rDa (S : zSt) : Prop := (sV S 1001 680 = sV S 7 228 ∧ sV S 1001 687 = sV S 7 229 ∧ sV S 1001 689 = sV S 7 232) ∧ ((¬ sV S 7 228 = 0 → sV S 1001 688 = sV S 7 230) ∧ (sV S 7 228 = 0 → sV S 7 230 = 0)) ∧ sc S 6 ≤ 10 ∧ sV S 8 257 = nI (sc S 6) ∧ ∀ a, 1 ≤ a → a ≤ sc S 6 → sV S (1320 + (sc S 6 - a)) 32 = sW S 14 (a - 1)
/-- before a day is played its turns and visits are as new -/
def rFr (S : zSt) : Prop := sV S 7 228 = 0 → (∀ i k, i < sc S 0 → k < sc S (10 + i) → sV S (160 + 8 * i + k) 423 = 0 ∧ sV S (160 + 8 * i + k) 418 = 0 ∧ sV S (160 + 8 * i + k) 419 = 0 ∧ sV S (160 + 8 * i + k) 420 = 0 ∧ sV S (160 + 8 * i + k) 421 = 0 ∧ sV S (160 + 8 * i + k) 422 = 0 ∧ sV S (160 + 8 * i + k) 424 = 0) ∧ ∀ j, j < sc S 2 → sV S (150 + j) 450 = 45 ∧ sV S (150 + j) 451 = 0
def rSo (S : zSt) : Prop := fMoney S (sc S 1) = sV S 7 231 - sV S 7 232 ∧ ∀ i, i < sc S 0 → fApart S i
def rRel (S : zSt) : Prop := (rCt (sc S) ∧ rPi S ∧ rAc S ∧ rGr S ∧ rCu (sc S 1) (sW S)) ∧ (rTu S ∧ rOn S ∧ rVi S ∧ rLo S) ∧ rWe S ∧ rDa S ∧ rFr S ∧ rSo S ∧ sP S 1010 ≠ 1
section ZREL
variable {S : zSt}
theorem rRel.ct (h : rRel S) : rCt (sc S) := h.1.1
theorem rRel.pi (h : rRel S) : rPi S := h.1.2.1
theorem rRel.ac (h : rRel S) : rAc S := h.1.2.2.1
theorem rRel.gr (h : rRel S) : rGr S := h.1.2.2.2.1
theorem rRel.cu (h : rRel S) : rCu (sc S 1) (sW S) := h.1.2.2.2.2
theorem rRel.tu (h : rRel S) : rTu S := h.2.1.1
theorem rRel.on (h : rRel S) : rOn S := h.2.1.2.1
theorem rRel.vi (h : rRel S) : rVi S := h.2.1.2.2.1
theorem rRel.lo (h : rRel S) : rLo S := h.2.1.2.2.2
theorem rRel.we (h : rRel S) : rWe S := h.2.2.1
theorem rRel.da (h : rRel S) : rDa S := h.2.2.2.1
theorem rRel.fr (h : rRel S) : rFr S := h.2.2.2.2.1
theorem rRel.so (h : rRel S) : rSo S := h.2.2.2.2.2.1
theorem rRel.p10 (h : rRel S) : sP S 1010 ≠ 1 := h.2.2.2.2.2.2
theorem rRel.c0 (h : rRel S) : sc S 1000 = sc S 0 := h.ct.1.1
theorem rRel.c1 (h : rRel S) : sc S 1001 = sc S 1 := h.ct.1.2.1
theorem rRel.c2 (h : rRel S) : sc S 1002 = sc S 2 := h.ct.1.2.2
theorem rRel.ck (h : rRel S) {i : Nat} (hi : i < sc S 0) : sc S (1010 + i) = sc S (10 + i) := h.ct.2.1 i (Nat.lt_of_lt_of_le hi h.ct.2.2.2.2.1)
theorem rRel.b0 (h : rRel S) : sc S 0 ≤ 6 := h.ct.2.2.2.2.1
theorem rRel.b1 (h : rRel S) : sc S 1 ≤ 8 := h.ct.2.2.2.2.2.1
theorem rRel.b2 (h : rRel S) : sc S 2 ≤ 6 := h.ct.2.2.2.2.2.2.1
theorem rRel.bk (h : rRel S) {i : Nat} (hi : i < sc S 0) : sc S (10 + i) ≤ 8 := h.ct.2.2.2.2.2.2.2 i (Nat.lt_of_lt_of_le hi h.ct.2.2.2.2.1)
theorem rRel.h3 (h : rRel S) : sc S 3 = 1 := h.ct.2.2.2.1.1
theorem rRel.h4 (h : rRel S) : sc S 4 = 1 := h.ct.2.2.2.1.2.1
theorem rRel.h5 (h : rRel S) : sc S 5 = 1 := h.ct.2.2.2.1.2.2
end ZREL
