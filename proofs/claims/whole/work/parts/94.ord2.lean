/-! THE ORDER BY NUMBER: class and reference pick the same acts -/
theorem nI_sub {a b : Nat} (h : b ≤ a) : nI a - nI b = nI (a - b) := by
  have e : nI a = nI (a - b) + nI b := by
    rw [nI_add]
    congr 1
    omega
  rw [e, Int32.add_sub_cancel]
theorem ord_in {p : Int32} {N : Nat} (hN : N < 2 ^ 30) : fIn p 0 (nI N - 1) = true ↔ ¬ p < 0 ∧ p < nI N := by
  unfold fIn
  rw [Bool.and_eq_true, decide_eq_true_iff, decide_eq_true_iff]
  refine and_congr_right (fun h0 => ?_)
  obtain ⟨j, hj, rfl⟩ := nI_of h0
  match N with
  | 0 =>
    constructor
    · intro h
      exfalso
      apply h
      have e : nI 0 - 1 = -1 := by decide
      rw [e]
      exact Int32.lt_of_lt_of_le (by decide : (-1 : Int32) < 0) (nI_pos' hj)
    · intro h
      exact absurd h (nI_pos hj)
  | N + 1 =>
    rw [nI_pred, nI_ltI (by omega) hj, nI_ltI hj (by omega)]
    omega
theorem tN_hit {fr : Nat → Bool} {G : Nat → Nat} {m : Nat} : ∀ n, m < tN fr G n → ∃ s, s < n ∧ fr s = true ∧ tN fr G s ≤ m ∧ m < tN fr G s + G s
  | 0, h => absurd h (Nat.not_lt_zero _)
  | n + 1, h => by
    by_cases g : m < tN fr G n
    · obtain ⟨s, h1, h2⟩ := tN_hit n g
      exact ⟨s, by omega, h2⟩
    · rw [tN_s] at h
      by_cases e : fr n = true
      · rw [if_pos e] at h
        exact ⟨n, by omega, e, by omega, h⟩
      · rw [if_neg e] at h
        omega
theorem tN_mono {fr : Nat → Bool} {G : Nat → Nat} {a : Nat} : ∀ b, a ≤ b → tN fr G a ≤ tN fr G b
  | 0, h => by
    have : a = 0 := by omega
    rw [this]
    exact Nat.le_refl _
  | b + 1, h => by
    by_cases e : a = b + 1
    · rw [e]
      exact Nat.le_refl _
    · have h1 := tN_mono (fr := fr) (G := G) (a := a) b (by omega)
      rw [tN_s]
      omega
section ZORD2
variable {S T : zSt} {n F : Nat}
theorem fFrm_c (hW : ∀ r k, r ≠ 10 → sW T r k = sW S r k) {a : Nat} {p : Int32} : ∀ j, fFrm T a p j = fFrm S a p j
  | 0 => rfl
  | j + 1 => by
    show (fFrm T a p j && (decide (fSb p (nI j) = 1) || decide (sW T (1030 + j) a = 0))) = (fFrm S a p j && (decide (fSb p (nI j) = 1) || decide (sW S (1030 + j) a = 0)))
    rw [fFrm_c hW j, hW _ _ (by omega)]
theorem fCnK_c (hW : ∀ r k, r ≠ 10 → sW T r k = sW S r k) (hc : sc T 1001 = sc S 1001) {p : Nat} {row : Nat → Int32} : ∀ k, fCnK T p k row = fCnK S p k row
  | 0 => rfl
  | k + 1 => by
    show u1 (fCnK T p k row) p (fCnK T p k row p + (if fFrm T k (nI p) (sc T 1001) = true then fCnK T p k row (p ||| 2 ^ k) else 0)) = u1 (fCnK S p k row) p (fCnK S p k row p + (if fFrm S k (nI p) (sc S 1001) = true then fCnK S p k row (p ||| 2 ^ k) else 0))
    rw [fCnK_c hW hc k, fFrm_c hW, hc]
theorem fCn_c (hW : ∀ r k, r ≠ 10 → sW T r k = sW S r k) (hc : sc T 1001 = sc S 1001) : ∀ j, fCn T F j = fCn S F j
  | 0 => rfl
  | j + 1 => by
    show fCnK T (F - 1 - j) (sc T 1001) (fCn T F j) = fCnK S (F - 1 - j) (sc S 1001) (fCn S F j)
    rw [fCn_c hW hc j, fCnK_c hW hc, hc]
theorem rCu.to {W W' : Nat → Nat → Int32} (h : rCu n W) (h9 : ∀ k, W' 9 k = W 9 k) (h1 : ∀ a k, a < 8 → k < 8 → W' (1030 + a) k = W (1030 + a) k) : rCu n W' := by
  obtain ⟨g1, g2, rk, g3⟩ := h
  refine ⟨fun a b ha hb => ?_, fun b a hb h8 ha => ?_, rk, fun a ha => ⟨(g3 a ha).1, fun b hb hx => ?_⟩⟩
  · rw [h1 a b ha hb, h9 b]
    exact g1 a b ha hb
  · rw [h9 b]
    exact g2 b a hb h8 ha
  · rw [h1 a b ha hb] at hx
    exact (g3 a ha).2 b hb hx
theorem oLeft_s {row : Nat → Int32} {p k : Nat} {x : Int32} : oLeft S row p x (k + 1) = oLeft S row p x k - (if fFrm S k (nI p) (sc S 1001) = true then row (p ||| 2 ^ k) else 0) := rfl
/-- who is picked: the first whose orders reach that far -/
theorem sel_ok (h : rCu n (sW S)) (hc : sc S 1001 = n) (hn : n ≤ 8) (hF : F + 1 = 2 ^ n) {p m : Nat} (hp : p < F) (hm : m < rNm S F p) : ∃ s, s < n ∧ oSel S (fCn S F F) p (nI m) = s ∧ p.testBit s = false ∧ (∃ m', oLeft S (fCn S F F) p (nI m) s = nI m' ∧ m' < rNm S F (p ||| 2 ^ s)) ∧ (∀ a, a < s → oCnd S (fCn S F F) p (nI m) a = false) ∧ oCnd S (fCn S F F) p (nI m) s = true := by
  have hN : ∀ a, a < n → fFrm S a (nI p) n = true → fCn S F F (p ||| 2 ^ a) = nI (rNm S F (p ||| 2 ^ a)) ∧ rNm S F (p ||| 2 ^ a) < 2 ^ 30 := fun a ha hf => fCn_lt h hc hn hF (or_lt hF (by omega) ha)
  have e : rNm S F p = tN (fun a => fFrm S a (nI p) n) (fun a => rNm S F (p ||| 2 ^ a)) n := by
    obtain ⟨h1, h2⟩ := fCn_lt h hc hn hF (show p ≤ F by omega)
    have h3 := fCn_rec h hc hn hF hp
    rw [tS_N n (fun a ha hf => (hN a ha hf).1), h1] at h3
    have hle := tN_le (fr := fun a => fFrm S a (nI p) n) (G := fun a => rNm S F (p ||| 2 ^ a)) (B := 8 ^ 8) n (fun a ha hf => by
      have hb := free_bit (by omega) (by omega) hf
      have hle2 := or_lt hF (show p ≤ F by omega) ha
      have h9 := (fCn_nat h hc hn hF (F - (p ||| 2 ^ a)) (p ||| 2 ^ a) (by omega)).2
      exact Nat.le_trans h9 (Nat.pow_le_pow_right (by omega) (by omega)))
    have h88 : n * 8 ^ 8 ≤ 8 * 8 ^ 8 := Nat.mul_le_mul_right _ hn
    exact (nI_eq (by omega) (by omega)).mp h3
  rw [e] at hm
  obtain ⟨s, hs, hfs, h1, h2⟩ := tN_hit n hm
  have hfs' : fFrm S s (nI p) n = true := hfs
  have hmb : m < 2 ^ 31 := by
    have := (fCn_lt h hc hn hF (show p ≤ F by omega)).2
    omega
  have hl : ∀ a, a ≤ s → oLeft S (fCn S F F) p (nI m) a = nI (m - tN (fun a => fFrm S a (nI p) n) (fun a => rNm S F (p ||| 2 ^ a)) a) := by
    intro a
    induction a with
    | zero => intro _; rfl
    | succ a ih =>
      intro ha
      have hmo := tN_mono (fr := fun a => fFrm S a (nI p) n) (G := fun a => rNm S F (p ||| 2 ^ a)) (a := a + 1) s ha
      rw [oLeft_s, ih (by omega), tN_s, hc]
      rw [tN_s] at hmo
      by_cases g : fFrm S a (nI p) n = true
      · rw [if_pos g, if_pos g, (hN a (by omega) g).1]
        rw [if_pos g] at hmo
        rw [nI_sub (by omega)]
        congr 1
        omega
      · rw [if_neg g, if_neg g, Int32.sub_zero, Nat.add_zero]
  have c0 : ∀ a, a < s → oCnd S (fCn S F F) p (nI m) a = false := by
    intro a ha
    unfold oCnd
    rw [hl a (by omega), hc]
    rcases g : fFrm S a (nI p) n with _ | _
    · rfl
    · rw [Bool.true_and]
      refine decide_eq_false ?_
      have hmo := tN_mono (fr := fun a => fFrm S a (nI p) n) (G := fun a => rNm S F (p ||| 2 ^ a)) (a := a + 1) s (by omega)
      rw [tN_s, if_pos g] at hmo
      rw [(hN a (by omega) g).1]
      have := (hN a (by omega) g).2
      exact nI_nlt (by omega) (by omega)
  have c1 : oCnd S (fCn S F F) p (nI m) s = true := by
    unfold oCnd
    rw [hl s (Nat.le_refl _), hc, hfs', Bool.true_and, (hN s hs hfs').1]
    have := (hN s hs hfs').2
    exact decide_eq_true (nI_lt (by omega) (by omega))
  refine ⟨s, hs, ?_, free_bit (by omega) (by omega) hfs', ⟨_, hl s (Nat.le_refl _), by omega⟩, c0, c1⟩
  unfold oSel
  rw [hc]
  exact zfst_hit c0 c1 hs
/-- order by order -/
def oInv (S : zSt) (n F i : Nat) (q : fOst) : Prop := q.1 ≤ F ∧ pcn n q.1 = i ∧ ∃ m, q.2.1 = nI m ∧ m < rNm S F q.1
def oStp (S : zSt) (row : Nat → Int32) (q : fOst) : fOst := (q.1 ||| 2 ^ oSel S row q.1 q.2.1, oLeft S row q.1 q.2.1 (oSel S row q.1 q.2.1), oSel S row q.1 q.2.1)
def fStp (T : zSt) (n : Nat) (q : fOst) : fOst := (q.1 ||| 2 ^ fSel T n q.1 q.2.1, fLeft T q.1 q.2.1 (fSel T n q.1 q.2.1), fSel T n q.1 q.2.1)
theorem oOrd_0 {row : Nat → Int32} {o : Int32} : oOrd S row o 0 = (0, o, 0) := rfl
theorem oOrd_s {row : Nat → Int32} {o : Int32} {i : Nat} : oOrd S row o (i + 1) = oStp S row (oOrd S row o i) := rfl
theorem fOrd_0 {o : Int32} : fOrd T n o 0 = (0, o, 0) := rfl
theorem fOrd_s {o : Int32} {i : Nat} : fOrd T n o (i + 1) = fStp T n (fOrd T n o i) := rfl
theorem pcn_0 : ∀ k, pcn k 0 = 0
  | 0 => rfl
  | k + 1 => by
    show cnt _ (k + 1) = 0
    rw [cnt_s, show cnt (fun i => (0 : Nat).testBit i) k = 0 from pcn_0 k]
    simp
theorem ord_step (h : rCu n (sW S)) (hc : sc S 1001 = n) (hn : n ≤ 8) (hF : F + 1 = 2 ^ n) (hT9 : ∀ k, sW T 9 k = sW S 9 k) (hT : ∀ q, q ≤ F → sW T 10 q = fCn S F F q) {i : Nat} (hi : i < n) {q : fOst} (hq : oInv S n F i q) : oSel S (fCn S F F) q.1 q.2.1 < n ∧ fStp T n q = oStp S (fCn S F F) q ∧ oInv S n F (i + 1) (oStp S (fCn S F F) q) := by
  obtain ⟨p, x, y⟩ := q
  obtain ⟨h1, h2, m, h3, h4⟩ := hq
  have h3 : x = nI m := h3
  subst h3
  have h1 : p ≤ F := h1
  have h2 : pcn n p = i := h2
  have h4 : m < rNm S F p := h4
  have hne : p ≠ F := fun g => by
    rw [g, pcn_F hF] at h2
    omega
  obtain ⟨s, hs, gsel, gb, ⟨m', g1, g2⟩, c0, c1⟩ := sel_ok h hc hn hF (show p < F by omega) h4
  have hnx : ∀ a, fNext T a (nI p) = fNext S a (nI p) := fun a => by
    unfold fNext
    rw [hT9]
  have hl : ∀ a, a ≤ n → fLeft T p (nI m) a = oLeft S (fCn S F F) p (nI m) a := by
    intro a
    induction a with
    | zero => intro _; rfl
    | succ a ih =>
      intro ha
      show fLeft T p (nI m) a - (if fNext T a (nI p) = true then sW T 10 (p ||| 2 ^ a) else 0) = _
      rw [ih (by omega), oLeft_s, hc, next_eq h hn (by omega), hnx, hT _ (or_lt hF h1 (by omega))]
  have hcd : ∀ a, a < n → fCnd T p (nI m) a = oCnd S (fCn S F F) p (nI m) a := by
    intro a ha
    unfold fCnd oCnd
    rw [hl a (by omega), hc, next_eq h hn (by omega), hT _ (or_lt hF h1 ha), hnx]
  have fsel : fSel T n p (nI m) = s := by
    unfold fSel
    by_cases g : s < n - 1
    · exact zfst_hit (fun f hf => (hcd f (by omega)).trans (c0 f hf)) ((hcd s hs).trans c1) g
    · have e : s = n - 1 := by omega
      rw [e]
      exact zfst_none (fun f hf => (hcd f (by omega)).trans (c0 f (by omega)))
  have e1 : oStp S (fCn S F F) (p, nI m, y) = (p ||| 2 ^ s, nI m', s) := by
    show (p ||| 2 ^ oSel S (fCn S F F) p (nI m), oLeft S (fCn S F F) p (nI m) (oSel S (fCn S F F) p (nI m)), oSel S (fCn S F F) p (nI m)) = _
    rw [gsel, g1]
  have e2 : fStp T n (p, nI m, y) = (p ||| 2 ^ s, nI m', s) := by
    show (p ||| 2 ^ fSel T n p (nI m), fLeft T p (nI m) (fSel T n p (nI m)), fSel T n p (nI m)) = _
    rw [fsel, hl s (by omega), g1]
  refine ⟨by rw [show oSel S (fCn S F F) (p, nI m, y).1 (p, nI m, y).2.1 = oSel S (fCn S F F) p (nI m) from rfl, gsel]; exact hs, e2.trans e1.symm, ?_⟩
  rw [e1]
  exact ⟨or_lt hF h1 hs, by show pcn n (p ||| 2 ^ s) = _; rw [pcn_or gb hs, h2], m', rfl, g2⟩
theorem ord_eq (h : rCu n (sW S)) (hc : sc S 1001 = n) (hn : n ≤ 8) (hF : F + 1 = 2 ^ n) (hT9 : ∀ k, sW T 9 k = sW S 9 k) (hT : ∀ q, q ≤ F → sW T 10 q = fCn S F F q) {o : Nat} (ho : o < rNm S F 0) : ∀ i, i ≤ n → fOrd T n (nI o) i = oOrd S (fCn S F F) (nI o) i ∧ oInv S n F i (oOrd S (fCn S F F) (nI o) i)
  | 0, _ => by
    rw [fOrd_0, oOrd_0]
    exact ⟨rfl, Nat.zero_le _, pcn_0 n, o, rfl, ho⟩
  | i + 1, hi => by
    obtain ⟨e, hq⟩ := ord_eq h hc hn hF hT9 hT ho i (by omega)
    obtain ⟨-, g2, g3⟩ := ord_step h hc hn hF hT9 hT (show i < n by omega) hq
    rw [fOrd_s, oOrd_s, e]
    exact ⟨g2, g3⟩
theorem ord_sel (h : rCu n (sW S)) (hc : sc S 1001 = n) (hn : n ≤ 8) (hF : F + 1 = 2 ^ n) (hT9 : ∀ k, sW T 9 k = sW S 9 k) (hT : ∀ q, q ≤ F → sW T 10 q = fCn S F F q) {o i : Nat} (ho : o < rNm S F 0) (hi : i < n) : oSel S (fCn S F F) (oOrd S (fCn S F F) (nI o) i).1 (oOrd S (fCn S F F) (nI o) i).2.1 < n :=
  (ord_step h hc hn hF hT9 hT hi (ord_eq h hc hn hF hT9 hT ho i (by omega)).2).1
end ZORD2
