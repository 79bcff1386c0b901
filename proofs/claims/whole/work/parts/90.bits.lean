/-! BITS of a set of acts; counting them (rows bt .. b_0 began as the kit's laws/BITS) -/
def bt (x : Int32) (i : Nat) : Bool := x.toBitVec.getLsbD i
theorem b_ext {x y : Int32} (h : ∀ i, i < 32 → bt x i = bt y i) : x = y := Int32.toBitVec_inj.mp (BitVec.eq_of_getLsbD_eq (fun i hi => h i hi))
theorem b_or (x y : Int32) (i : Nat) : bt (x ||| y) i = (bt x i || bt y i) := by unfold bt; rw [Int32.toBitVec_or, BitVec.getLsbD_or]
theorem b_and (x y : Int32) (i : Nat) : bt (x &&& y) i = (bt x i && bt y i) := by unfold bt; rw [Int32.toBitVec_and, BitVec.getLsbD_and]
theorem b_xor (x y : Int32) (i : Nat) : bt (x ^^^ y) i = (bt x i ^^ bt y i) := by unfold bt; rw [Int32.toBitVec_xor, BitVec.getLsbD_xor]
theorem b_m1 : ∀ i, i < 32 → bt (-1) i = true := by decide +kernel
theorem b_0 (i : Nat) : bt 0 i = false := BitVec.getLsbD_zero
theorem b_z : ∀ a, a < 32 → ∀ i, i < 32 → bt (zbit (nI a)) i = decide (a = i) := by decide +kernel
/-- is a bit set -/
theorem b_tst {x : Int32} {a : Nat} (ha : a < 32) : x &&& zbit (nI a) = 0 ↔ bt x a = false := by
  constructor
  · intro h
    have h1 := congrArg (fun y => bt y a) h
    simp only [b_and, b_z a ha a ha, b_0, decide_true, Bool.and_true] at h1
    exact h1
  · intro h
    refine b_ext (fun i hi => ?_)
    rw [b_and, b_z a ha i hi, b_0]
    by_cases e : a = i
    · rw [← e, h]; rfl
    · rw [decide_eq_false e, Bool.and_false]
theorem b_tst' {x : Int32} {a : Nat} (ha : a < 32) : ¬ x &&& zbit (nI a) = 0 ↔ bt x a = true := by
  rw [b_tst ha]
  simp
theorem b_dec {x : Int32} {a : Nat} (ha : a < 32) : decide (x &&& zbit (nI a) = 0) = !bt x a := by
  rcases hb : bt x a with _ | _
  · exact decide_eq_true ((b_tst ha).mpr hb)
  · exact decide_eq_false ((b_tst' ha).mpr hb)
theorem b_not {x : Int32} {i : Nat} (hi : i < 32) : bt (x ^^^ (-1)) i = !bt x i := by
  rw [b_xor, b_m1 i hi, Bool.xor_true]
theorem b_zero {x : Int32} : x = 0 ↔ ∀ i, i < 32 → bt x i = false := by
  constructor
  · rintro rfl i _
    exact b_0 i
  · intro h
    exact b_ext (fun i hi => (h i hi).trans (b_0 i).symm)
/-- one set in another: nothing of x outside of p -/
theorem b_sub {x p : Int32} : x &&& (p ^^^ (-1)) = 0 ↔ ∀ i, i < 32 → bt x i = true → bt p i = true := by
  rw [b_zero]
  constructor
  · intro h i hi hx
    have h1 := h i hi
    rw [b_and, b_not hi, hx, Bool.true_and] at h1
    simpa using h1
  · intro h i hi
    rw [b_and, b_not hi]
    rcases hx : bt x i with _ | _
    · rfl
    · rw [h i hi hx]; rfl
theorem b_dis {x p : Int32} : x &&& p = 0 ↔ ∀ i, i < 32 → bt x i = true → bt p i = false := by
  rw [b_zero]
  constructor
  · intro h i hi hx
    have h1 := h i hi
    rw [b_and, hx, Bool.true_and] at h1
    exact h1
  · intro h i hi
    rw [b_and]
    rcases hx : bt x i with _ | _
    · rfl
    · rw [h i hi hx]; rfl
theorem b_nI {n i : Nat} (hi : i < 32) : bt (nI n) i = n.testBit i := by
  unfold bt nI
  show (BitVec.ofNat 32 n).getLsbD i = _
  rw [BitVec.getLsbD_ofNat]
  simp [hi]
/-- how many -/
def cnt (p : Nat → Bool) (n : Nat) : Nat := zit (fun b c => c + (if p b = true then 1 else 0)) n 0
theorem cnt_s {p : Nat → Bool} {n : Nat} : cnt p (n + 1) = cnt p n + (if p n = true then 1 else 0) := rfl
theorem cnt_le {p : Nat → Bool} : ∀ n, cnt p n ≤ n
  | 0 => Nat.le_refl _
  | n + 1 => by
    have := cnt_le (p := p) n
    rw [cnt_s]
    split <;> omega
theorem cnt_congr {p q : Nat → Bool} : ∀ n, (∀ i, i < n → p i = q i) → cnt p n = cnt q n
  | 0, _ => rfl
  | n + 1, h => by
    rw [cnt_s, cnt_s, cnt_congr n (fun i hi => h i (by omega)), h n (by omega)]
theorem cnt_pos {p : Nat → Bool} {i : Nat} (hp : p i = true) : ∀ {n : Nat}, i < n → 0 < cnt p n
  | n + 1, h => by
    rw [cnt_s]
    by_cases e : i = n
    · rw [← e, if_pos hp]; omega
    · have := cnt_pos (n := n) hp (by omega)
      omega
theorem cnt_more {p : Nat → Bool} {n : Nat} : ∀ k, (∀ i, n ≤ i → i < n + k → p i = false) → cnt p (n + k) = cnt p n
  | 0, _ => rfl
  | k + 1, h => by
    show cnt p (n + k + 1) = _
    rw [cnt_s, cnt_more k (fun i h1 h2 => h i h1 (by omega)), h (n + k) (by omega) (by omega)]
    rfl
theorem cnt_lt {p : Nat → Bool} {i : Nat} (hp : p i = false) : ∀ {n : Nat}, i < n → cnt p n < n
  | n + 1, h => by
    rw [cnt_s]
    by_cases e : i = n
    · rw [← e, hp]
      have := cnt_le (p := p) i
      simp
      omega
    · have := cnt_lt (n := n) hp (by omega)
      split <;> omega
theorem cnt_mono {p q : Nat → Bool} : ∀ n, (∀ i, i < n → p i = true → q i = true) → cnt p n ≤ cnt q n
  | 0, _ => Nat.le_refl _
  | n + 1, h => by
    rw [cnt_s, cnt_s]
    have h1 := cnt_mono n (fun i hi => h i (by omega))
    by_cases e : p n = true
    · rw [if_pos e, if_pos (h n (by omega) e)]; omega
    · rw [if_neg e]; omega
theorem cnt_mono_lt {p q : Nat → Bool} {k : Nat} (hk : p k = false) (hq : q k = true) : ∀ {n : Nat}, k < n → (∀ i, i < n → p i = true → q i = true) → cnt p n < cnt q n
  | n + 1, hl, h => by
    rw [cnt_s, cnt_s]
    by_cases e : k = n
    · have h1 := cnt_mono (p := p) (q := q) n (fun i hi => h i (by omega))
      rw [← e, hk, if_pos hq] at *
      simp
      omega
    · have h1 := cnt_mono_lt hk hq (n := n) (by omega) (fun i hi => h i (by omega))
      by_cases e : p n = true
      · rw [if_pos e, if_pos (h n (by omega) e)]; omega
      · rw [if_neg e]; omega
/-- the class counts the bits of a small set -/
theorem fBc_n : ∀ m, m < 256 → fBc (nI m) = nI (cnt (fun b => m.testBit b) 8) := by decide +kernel
theorem b_small {x : Int32} (h : ∀ i, 8 ≤ i → i < 32 → bt x i = false) : ∃ m, m < 256 ∧ x = nI m := by
  refine ⟨x.toBitVec.toNat, ?_, ?_⟩
  · refine Nat.lt_pow_two_of_testBit (n := 8) _ (fun i hi => ?_)
    by_cases h32 : i < 32
    · exact h i hi h32
    · exact BitVec.getLsbD_of_ge x.toBitVec i (by omega)
  · exact Int32.toBitVec_inj.mp (by show _ = BitVec.ofNat 32 _; simp)
theorem fBc_c {x : Int32} (h : ∀ i, 8 ≤ i → i < 32 → bt x i = false) : fBc x = nI (cnt (bt x) 8) := by
  obtain ⟨m, hm, rfl⟩ := b_small h
  rw [fBc_n m hm]
  exact congrArg nI (cnt_congr 8 (fun i hi => (b_nI (by omega)).symm))
