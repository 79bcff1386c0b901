/-! ORDERS: the class's ways and the reference's counts are one -/
theorem fSb_b {p : Int32} {k : Nat} (hk : k < 32) : fSb p (nI k) = if bt p k = true then 1 else 0 := by
  have h1 : ∀ i, i < 32 → bt 1 i = decide (i = 0) := by decide +kernel
  have h0 : bt (p >>> (nI k &&& 31)) 0 = bt p k := by
    unfold bt
    rw [Int32.toBitVec_shiftRight]
    have hs : ∀ n, n < 32 → ((nI n &&& 31).toBitVec.smod 32).toNat = n := by decide +kernel
    show (p.toBitVec.sshiftRight ((nI k &&& 31).toBitVec.smod 32).toNat).getLsbD 0 = _
    rw [hs k hk, BitVec.getLsbD_sshiftRight]
    simp [hk]
  refine b_ext (fun i hi => ?_)
  unfold fSb
  rw [b_and, h1 i hi]
  by_cases e : i = 0
  · subst e
    rw [h0]
    rcases hb : bt p k with _ | _
    · simp [b_0]
    · simp [h1]
  · rw [decide_eq_false e, Bool.and_false]
    split
    · rw [h1 i hi, decide_eq_false e]
    · rw [b_0]
section ZORD
variable {S : zSt} {n F : Nat}
theorem fFrm_iff {a : Nat} {p : Int32} (ha : a < 32) : ∀ {j : Nat}, j ≤ 32 → (fFrm S a p j = true ↔ bt p a = false ∧ ∀ k, k < j → bt p k = true ∨ sW S (1030 + k) a = 0)
  | 0, _ => by
    show (decide (fSb p (nI a) = 0)) = true ↔ _
    rw [fSb_b ha, decide_eq_true_iff]
    constructor
    · intro h
      refine ⟨?_, fun k hk => absurd hk (Nat.not_lt_zero _)⟩
      rcases hb : bt p a with _ | _
      · rfl
      · rw [hb, if_pos rfl] at h
        exact absurd h (by decide)
    · rintro ⟨h, -⟩
      rw [h, if_neg (by simp)]
  | j + 1, hj => by
    show (fFrm S a p j && (decide (fSb p (nI j) = 1) || decide (sW S (1030 + j) a = 0))) = true ↔ _
    rw [Bool.and_eq_true, fFrm_iff ha (by omega : j ≤ 32), Bool.or_eq_true, decide_eq_true_iff, decide_eq_true_iff, fSb_b (by omega)]
    have e : (if bt p j = true then (1 : Int32) else 0) = 1 ↔ bt p j = true := by
      split
      · simp [*]
      · constructor
        · intro h; exact absurd h (by decide)
        · intro h; contradiction
    rw [e]
    constructor
    · rintro ⟨⟨h1, h2⟩, h3⟩
      refine ⟨h1, fun k hk => ?_⟩
      by_cases g : k = j
      · rw [g]; exact h3
      · exact h2 k (by omega)
    · rintro ⟨h1, h2⟩
      exact ⟨⟨h1, fun k hk => h2 k (by omega)⟩, h2 j (by omega)⟩
/-- next by the class, free by the reference -/
theorem next_eq (h : rCu n (sW S)) (hn : n ≤ 8) {a : Nat} (ha : a < 8) (p : Int32) : fFrm S a p n = fNext S a p := by
  obtain ⟨h1, h2, -⟩ := h
  rw [Bool.eq_iff_iff, fFrm_iff (by omega) (by omega)]
  unfold fNext
  rw [Bool.and_eq_true, decide_eq_true_iff, decide_eq_true_iff, b_tst (by omega), b_sub]
  refine and_congr_right (fun _ => ?_)
  constructor
  · intro h i hi hb
    have h8 : i < 8 := by
      rcases Nat.lt_or_ge i 8 with g | g
      · exact g
      · rw [h2 a i ha g hi] at hb
        cases hb
    have g := h1 i a h8 ha
    have g0 : ¬ sW S (1030 + i) a = 0 := by
      rw [hb] at g
      simpa using g.2.1.symm
    exact (h i (g.2.2 g0).1).resolve_right g0
  · intro h k hk
    by_cases g0 : sW S (1030 + k) a = 0
    · exact Or.inr g0
    · refine Or.inl (h k (by omega) ?_)
      rw [(h1 k a (by omega) ha).2.1, decide_eq_false g0]
      rfl
theorem free_bit {a p j : Nat} (ha : a < 32) (hj : j ≤ 32) (h : fFrm S a (nI p) j = true) : p.testBit a = false := by
  rw [← b_nI ha]
  exact ((fFrm_iff ha hj).mp h).1
theorem or_ne {p a : Nat} (h : p.testBit a = false) : p ||| 2 ^ a ≠ p := by
  intro e
  have := congrArg (fun x => x.testBit a) e
  simp [h] at this
theorem or_gt {p a : Nat} (h : p.testBit a = false) : p < p ||| 2 ^ a := by
  have h1 : p ≤ p ||| 2 ^ a := Nat.left_le_or
  have h2 := or_ne h
  omega
theorem or_lt {p a : Nat} (hF : F + 1 = 2 ^ n) (hp : p ≤ F) (ha : a < n) : p ||| 2 ^ a ≤ F := by
  have h1 : p < 2 ^ n := by omega
  have h2 : 2 ^ a < 2 ^ n := Nat.pow_lt_pow_right (by omega) ha
  have := Nat.or_lt_two_pow h1 h2
  omega
/-- the sum over who is free -/
def tS (fr : Nat → Bool) (g : Nat → Int32) (k : Nat) : Int32 := zit (fun a s => s + (if fr a = true then g a else 0)) k 0
theorem tS_s {fr : Nat → Bool} {g : Nat → Int32} {k : Nat} : tS fr g (k + 1) = tS fr g k + (if fr k = true then g k else 0) := rfl
theorem tS_congr {fr fr' : Nat → Bool} {g g' : Nat → Int32} : ∀ k, (∀ a, a < k → fr a = fr' a) → (∀ a, a < k → fr a = true → g a = g' a) → tS fr g k = tS fr' g' k
  | 0, _, _ => rfl
  | k + 1, h1, h2 => by
    rw [tS_s, tS_s, tS_congr k (fun a ha => h1 a (by omega)) (fun a ha => h2 a (by omega)), ← h1 k (by omega)]
    by_cases e : fr k = true
    · rw [if_pos e, if_pos e, h2 k (by omega) e]
    · rw [if_neg e, if_neg e]
theorem u1_u1 {α : Type} {f : Nat → α} {a : Nat} {x y : α} : u1 (u1 f a x) a y = u1 f a y := by
  funext b
  unfold u1
  split <;> rfl
theorem fCnK_eq {p : Nat} {row : Nat → Int32} (hn : sc S 1001 ≤ 32) : ∀ k, k ≤ 32 → fCnK S p k row = u1 row p (row p + tS (fun a => fFrm S a (nI p) (sc S 1001)) (fun a => row (p ||| 2 ^ a)) k)
  | 0, _ => by
    funext b
    show row b = u1 row p (row p + 0) b
    unfold u1
    split
    · rename_i h
      rw [h, Int32.add_zero]
    · rfl
  | k + 1, hk => by
    show u1 (fCnK S p k row) p (fCnK S p k row p + (if fFrm S k (nI p) (sc S 1001) = true then fCnK S p k row (p ||| 2 ^ k) else 0)) = _
    rw [fCnK_eq hn k (by omega), u1_u1, u1_at, tS_s]
    by_cases e : fFrm S k (nI p) (sc S 1001) = true
    · rw [if_pos e, if_pos e, u1_ne (or_ne (free_bit (by omega) hn e)), Int32.add_assoc]
    · rw [if_neg e, if_neg e, Int32.add_assoc]
theorem fSumK_eq {p : Nat} : ∀ k, fSumK S p k = tS (fun a => fNext S a (nI p)) (fun a => sW S 10 (p ||| 2 ^ a)) k
  | 0 => rfl
  | k + 1 => by
    show fSumK S p k + _ = _
    rw [fSumK_eq k]
    rfl
theorem fWay_9 : ∀ j r k, r ≠ 10 → fWay S n F j r k = sW S r k
  | 0, r, k, h => by
    show u2 (sW S) 10 F 1 r k = _
    rw [u2_if, if_neg (fun q => h q.2)]
  | j + 1, r, k, h => by
    show u2 (fWay S n F j) 10 _ _ r k = _
    rw [u2_if, if_neg (fun q => h q.2)]
    exact fWay_9 j r k h
theorem next_W {W : Nat → Nat → Int32} (h : ∀ k, W 9 k = sW S 9 k) (a : Nat) (p : Int32) : fNext (wW S W) a p = fNext S a p := by
  unfold fNext
  rw [show sW (wW S W) 9 a = sW S 9 a from h a]
/-- row by row: the same, and what is not reached is 0 -/
theorem ways_eq (h : rCu n (sW S)) (hc : sc S 1001 = n) (hn : n ≤ 8) (hF : F + 1 = 2 ^ n) : ∀ j, j ≤ F → (∀ q, F - j ≤ q → q ≤ F → fWay S n F j 10 q = fCn S F j q) ∧ ∀ q, q < F - j → fCn S F j q = 0
  | 0, _ => by
    refine ⟨fun q h1 h2 => ?_, fun q hq => ?_⟩
    · have : q = F := by omega
      subst this
      show u2 (sW S) 10 q 1 10 q = u1 (fun _ => 0) q 1 q
      rw [u2_at, u1_at]
    · show u1 (fun _ => 0) F 1 q = 0
      rw [u1_ne (by omega)]
  | j + 1, hj => by
    obtain ⟨h1, h2⟩ := ways_eq h hc hn hF j (by omega)
    have e1 : fWay S n F (j + 1) = u2 (fWay S n F j) 10 (F - 1 - j) (fSumK (wW S (fWay S n F j)) (F - 1 - j) n) := rfl
    have e2 : fCn S F (j + 1) = fCnK S (F - 1 - j) (sc S 1001) (fCn S F j) := rfl
    have e3 := fCnK_eq (S := S) (p := F - 1 - j) (row := fCn S F j) (by omega) (sc S 1001) (by omega)
    refine ⟨fun q g1 g2 => ?_, fun q hq => ?_⟩
    · rw [e1, e2, e3, u2_if]
      by_cases e : q = F - 1 - j
      · rw [if_pos ⟨e, rfl⟩, e, u1_at, h2 _ (by omega), Int32.zero_add, fSumK_eq, hc]
        refine tS_congr n (fun a ha => ?_) (fun a ha hf => ?_)
        · rw [next_eq h hn (by omega), next_W (fun k => fWay_9 j 9 k (by decide))]
        · show fWay S n F j 10 _ = _
          rw [next_W (fun k => fWay_9 j 9 k (by decide)), ← next_eq h hn (by omega)] at hf
          have hb := free_bit (by omega) (by omega) hf
          have := or_gt hb
          exact h1 _ (by omega) (or_lt hF (by omega) ha)
      · rw [if_neg (fun g => e g.1), u1_ne e]
        exact h1 q (by omega) g2
    · rw [e2, e3, u1_ne (by omega)]
      exact h2 q (by omega)
/-- the row at the end: each entry is the sum over the entries behind it -/
theorem fCn_late (hn : sc S 1001 ≤ 32) : ∀ j i q, j + i ≤ F → F - j ≤ q → fCn S F (j + i) q = fCn S F j q
  | j, 0, q, _, _ => rfl
  | j, i + 1, q, h9, h => by
    show fCnK S (F - 1 - (j + i)) (sc S 1001) (fCn S F (j + i)) q = _
    rw [fCnK_eq hn _ hn, u1_ne (by omega)]
    exact fCn_late hn j i q (by omega) h
theorem fCn_F (hn : sc S 1001 ≤ 32) : fCn S F F F = 1 := by
  have h := fCn_late (S := S) (F := F) hn 0 F F (by omega) (by omega)
  rw [Nat.zero_add] at h
  rw [h]
  show u1 (fun _ => 0) F 1 F = 1
  exact u1_at
theorem fCn_rec (h : rCu n (sW S)) (hc : sc S 1001 = n) (hn : n ≤ 8) (hF : F + 1 = 2 ^ n) {p : Nat} (hp : p < F) : fCn S F F p = tS (fun a => fFrm S a (nI p) n) (fun a => fCn S F F (p ||| 2 ^ a)) n := by
  have hn3 : sc S 1001 ≤ 32 := by omega
  obtain ⟨j, hj⟩ : ∃ j, j + 1 + p = F := ⟨F - 1 - p, by omega⟩
  have hpj : F - 1 - j = p := by omega
  have l1 := fCn_late (S := S) (F := F) hn3 (j + 1) (F - (j + 1)) p (by omega) (by omega)
  rw [show j + 1 + (F - (j + 1)) = F by omega] at l1
  rw [l1]
  show fCnK S (F - 1 - j) (sc S 1001) (fCn S F j) p = _
  rw [hpj, fCnK_eq hn3 _ hn3, u1_at, (ways_eq h hc hn hF j (by omega)).2 p (by omega), Int32.zero_add, hc]
  refine tS_congr n (fun a ha => rfl) (fun a ha hf => ?_)
  have hb := free_bit (by omega) (by omega) hf
  have hg := or_gt hb
  have l2 := fCn_late (S := S) (F := F) hn3 j (F - j) (p ||| 2 ^ a) (by omega) (by omega)
  rw [show j + (F - j) = F by omega] at l2
  exact l2.symm
def tN (fr : Nat → Bool) (g : Nat → Nat) (k : Nat) : Nat := zit (fun a s => s + (if fr a = true then g a else 0)) k 0
theorem tN_s {fr : Nat → Bool} {g : Nat → Nat} {k : Nat} : tN fr g (k + 1) = tN fr g k + (if fr k = true then g k else 0) := rfl
theorem tS_N {fr : Nat → Bool} {g : Nat → Int32} {G : Nat → Nat} : ∀ k, (∀ a, a < k → fr a = true → g a = nI (G a)) → tS fr g k = nI (tN fr G k)
  | 0, _ => rfl
  | k + 1, h => by
    rw [tS_s, tN_s, tS_N k (fun a ha => h a (by omega))]
    by_cases e : fr k = true
    · rw [if_pos e, if_pos e, h k (by omega) e, nI_add]
    · rw [if_neg e, if_neg e, Int32.add_zero, Nat.add_zero]
theorem tN_le {fr : Nat → Bool} {G : Nat → Nat} {B : Nat} : ∀ k, (∀ a, a < k → fr a = true → G a ≤ B) → tN fr G k ≤ k * B
  | 0, _ => Nat.zero_le _
  | k + 1, h => by
    have h1 := tN_le k (fun a ha => h a (by omega))
    rw [tN_s, Nat.succ_mul]
    by_cases e : fr k = true
    · have h2 := h k (by omega) e
      rw [if_pos e]
      omega
    · rw [if_neg e]
      omega
/-- how many of the first n bits -/
abbrev pcn (n p : Nat) : Nat := cnt (fun i => p.testBit i) n
theorem cnt_set {p q : Nat → Bool} {a : Nat} (hpa : p a = false) (hqa : q a = true) (h : ∀ i, i ≠ a → q i = p i) : ∀ {n : Nat}, a < n → cnt q n = cnt p n + 1
  | n + 1, ha => by
    rw [cnt_s, cnt_s]
    by_cases e : a = n
    · subst e
      rw [if_pos hqa, hpa, cnt_congr a (fun i hi => h i (by omega))]
      simp
    · rw [cnt_set hpa hqa h (n := n) (by omega), h n (fun g => e g.symm)]
      omega
theorem pcn_or {p a : Nat} (hb : p.testBit a = false) (ha : a < n) : pcn n (p ||| 2 ^ a) = pcn n p + 1 := by
  refine cnt_set (a := a) hb (by simp) (fun i hi => ?_) ha
  simp [Nat.testBit_two_pow_of_ne (Ne.symm hi)]
theorem pcn_all {p : Nat} : ∀ {n : Nat}, (∀ i, i < n → p.testBit i = true) → pcn n p = n
  | 0, _ => rfl
  | n + 1, h => by
    show cnt _ (n + 1) = _
    rw [cnt_s, if_pos (h n (by omega))]
    exact congrArg (fun x => x + 1) (pcn_all (p := p) (n := n) (fun i hi => h i (by omega)))
theorem pcn_F (hF : F + 1 = 2 ^ n) : pcn n F = n := by
  refine pcn_all (fun i hi => ?_)
  rw [show F = 2 ^ n - 1 by omega, Nat.testBit_two_pow_sub_one]
  exact decide_eq_true hi
abbrev rNm (S : zSt) (F p : Nat) : Nat := (fCn S F F p).toNatClampNeg
theorem fCn_nat (h : rCu n (sW S)) (hc : sc S 1001 = n) (hn : n ≤ 8) (hF : F + 1 = 2 ^ n) : ∀ d p, p + d = F → fCn S F F p = nI (rNm S F p) ∧ rNm S F p ≤ 8 ^ (n - pcn n p) := by
  intro d
  induction d using Nat.strongRecOn with
  | ind d ih =>
    intro p hp
    have key : ∃ m, fCn S F F p = nI m ∧ m ≤ 8 ^ (n - pcn n p) ∧ m < 2 ^ 31 := by
      by_cases hd : d = 0
      · have : p = F := by omega
        subst this
        exact ⟨1, fCn_F (by omega), by rw [pcn_F hF, Nat.sub_self]; decide, by decide⟩
      · rw [fCn_rec h hc hn hF (show p < F by omega)]
        have hg : ∀ a, a < n → fFrm S a (nI p) n = true → fCn S F F (p ||| 2 ^ a) = nI (rNm S F (p ||| 2 ^ a)) ∧ rNm S F (p ||| 2 ^ a) ≤ 8 ^ (n - pcn n (p ||| 2 ^ a)) := by
          intro a ha hf
          have hb := free_bit (by omega) (by omega) hf
          have h1 := or_gt hb
          have h2 := or_lt hF (show p ≤ F by omega) ha
          exact ih (F - (p ||| 2 ^ a)) (by omega) (p ||| 2 ^ a) (by omega)
        rw [tS_N n (fun a ha hf => (hg a ha hf).1)]
        have hlt : pcn n p < n := by
          refine Nat.lt_of_le_of_ne (cnt_le n) (fun e => ?_)
          have hall : ∀ i, i < n → p.testBit i = true := by
            intro i hi
            rcases hb : p.testBit i with _ | _
            · exact absurd e (Nat.ne_of_lt (cnt_lt (p := fun i => p.testBit i) (i := i) hb hi))
            · rfl
          have : p = F := by
            refine Nat.eq_of_testBit_eq (fun i => ?_)
            rw [show F = 2 ^ n - 1 by omega, Nat.testBit_two_pow_sub_one]
            by_cases hi : i < n
            · rw [hall i hi, decide_eq_true hi]
            · rw [decide_eq_false hi]
              exact Nat.testBit_lt_two_pow (Nat.lt_of_lt_of_le (show p < 2 ^ n by omega) (Nat.pow_le_pow_right (by omega) (by omega)))
          omega
        have hle := tN_le (fr := fun a => fFrm S a (nI p) n) (G := fun a => rNm S F (p ||| 2 ^ a)) (B := 8 ^ (n - pcn n p - 1)) n (fun a ha hf => by
          have h1 := (hg a ha hf).2
          have hb := free_bit (by omega) (by omega) hf
          rw [pcn_or hb ha] at h1
          rw [show n - pcn n p - 1 = n - (pcn n p + 1) by omega]
          exact h1)
        have h8 : n * 8 ^ (n - pcn n p - 1) ≤ 8 ^ (n - pcn n p) := by
          obtain ⟨e, he⟩ : ∃ e, n - pcn n p = e + 1 := ⟨n - pcn n p - 1, by omega⟩
          rw [he, Nat.add_sub_cancel, Nat.pow_succ, Nat.mul_comm (8 ^ e)]
          exact Nat.mul_le_mul_right _ hn
        have h9 : 8 ^ (n - pcn n p) ≤ 8 ^ 8 := Nat.pow_le_pow_right (by omega) (by omega)
        exact ⟨_, rfl, by omega, by omega⟩
    obtain ⟨m, h1, h2, h3⟩ := key
    have e : rNm S F p = m := by
      show (fCn S F F p).toNatClampNeg = m
      rw [h1, nI_clamp h3]
    rw [e]
    exact ⟨h1, h2⟩
theorem fCn_lt (h : rCu n (sW S)) (hc : sc S 1001 = n) (hn : n ≤ 8) (hF : F + 1 = 2 ^ n) {p : Nat} (hp : p ≤ F) : fCn S F F p = nI (rNm S F p) ∧ rNm S F p < 2 ^ 30 := by
  obtain ⟨h1, h2⟩ := fCn_nat h hc hn hF (F - p) p (by omega)
  have h9 : 8 ^ (n - pcn n p) ≤ 8 ^ 8 := Nat.pow_le_pow_right (by omega) (by omega)
  exact ⟨h1, by omega⟩
end ZORD
