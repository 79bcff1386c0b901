/-! OPERATIONS 12: lots are drawn on both sides -/
section ZOP12A
variable {S S' : zSt} {n F zn j : Nat}
/-- the lots are written -/
theorem rel_lots2 (h : rRel S) (hc : ∀ q, q ≠ 1003 → sc S' q = sc S q) (hT : sT S' = sT S) (hP : sP S' = sP S) (hW : ∀ r k, ¬ (11 ≤ r ∧ r ≤ 13) → sW S' r k = sW S r k) (hV : ∀ r k, k ≠ 672 → ¬ (323 ≤ k ∧ k ≤ 325) → k ≠ 679 → k ≠ 681 → (k = 32 → 1320 ≤ r) → sV S' r k = sV S r k) (hA : rLo S') : rRel S' := by
  have b0 := h.b0
  have b1 := h.b1
  have n0 := hc 0 (by omega)
  have n1 := hc 1 (by omega)
  have n2 := hc 2 (by omega)
  let S0 : zSt := (sc S, sV S', sW S', sT S', sP S')
  have p1 : rPi S0 := h.pi.to rfl (fun r k _ => hV r k (by omega) (by omega) (by omega) (by omega) (by omega)) (fun r k _ => hW r k (by omega)) b0
  have p2 : rAc S0 := h.ac.to rfl (fun r k _ => hV r k (by omega) (by omega) (by omega) (by omega) (by omega))
  have p3 : rGr S0 := h.gr.to rfl (fun r k _ => hV r k (by omega) (by omega) (by omega) (by omega) (by omega))
  have p4 : rTu S0 := h.tu.to rfl hT (fun r k _ => hV r k (by omega) (by omega) (by omega) (by omega) (by omega))
  have p5 : rOn S0 := h.on.to rfl hT
  have p6 : rVi S0 := h.vi.to rfl (fun j _ => by show sP S' j = _; rw [hP]) h.b2 (fun r k _ => hV r k (by omega) (by omega) (by omega) (by omega) (by omega))
  have p7 : rWe S0 := h.we.to (fun r k _ => hV r k (by omega) (by omega) (by omega) (by omega) (by omega))
  have p8 : rFr S0 := h.fr.to rfl (fun r k _ => hV r k (by omega) (by omega) (by omega) (by omega) (by omega))
  have p9 : rSo S0 := h.so.to rfl (fun r k _ => hV r k (by omega) (by omega) (by omega) (by omega) (by omega))
  refine ⟨⟨?_, fun i hi => ?_, fun a ha => ?_, fun a ha => ?_, ?_⟩, ⟨fun i k hi hk => ?_, fun i j k m hi hj hk hm => ?_, fun j hj => ?_, hA⟩, p7, ?_, fun h0 => ⟨fun i k hi hk => ?_, fun j hj => ?_⟩, ⟨?_, fun i hi k hk => ?_⟩, by rw [hP]; exact h.p10⟩
  · have g := h.ct
    unfold rCt at g ⊢
    rw [n0, n1, n2, hc 1000 (by omega), hc 1001 (by omega), hc 1002 (by omega), hc 3 (by omega), hc 4 (by omega), hc 5 (by omega)]
    obtain ⟨g1, g2, g3, g4, g5, g6, g7, g8⟩ := g
    refine ⟨g1, fun i hi => ?_, fun i hi h6 => ?_, g4, g5, g6, g7, fun i hi => ?_⟩
    · rw [hc _ (by omega), hc _ (by omega)]
      exact g2 i hi
    · rw [hc _ (by omega)]
      exact g3 i hi h6
    · rw [hc _ (by omega)]
      exact g8 i hi
  · rw [n0] at hi
    exact p1 i hi
  · rw [n1] at ha
    exact p2 a ha
  · rw [n1] at ha ⊢
    exact p3 a ha
  · rw [n1]
    exact h.cu.to (fun k => hW _ _ (by omega)) (fun a k _ _ => hW _ _ (by omega))
  · rw [n0] at hi
    rw [hc _ (by omega)] at hk
    rw [n1]
    exact p4 i k hi hk
  · rw [n0] at hi hj
    rw [hc _ (by omega)] at hk hm
    exact p5 i j k m hi hj hk hm
  · rw [n2] at hj
    rw [n0]
    exact p6 j hj
  · have g := h.da
    unfold rDa at g ⊢
    rw [hc 6 (by omega), hV 7 228 (by omega) (by omega) (by omega) (by omega) (by omega), hV 7 229 (by omega) (by omega) (by omega) (by omega) (by omega), hV 7 230 (by omega) (by omega) (by omega) (by omega) (by omega), hV 7 232 (by omega) (by omega) (by omega) (by omega) (by omega), hV 8 257 (by omega) (by omega) (by omega) (by omega) (by omega), hV 1001 680 (by omega) (by omega) (by omega) (by omega) (by omega), hV 1001 687 (by omega) (by omega) (by omega) (by omega) (by omega), hV 1001 688 (by omega) (by omega) (by omega) (by omega) (by omega), hV 1001 689 (by omega) (by omega) (by omega) (by omega) (by omega)]
    obtain ⟨g1, g2, g3, g4, g5⟩ := g
    refine ⟨g1, g2, g3, g4, fun a h1 h2 => ?_⟩
    rw [hV _ 32 (by omega) (by omega) (by omega) (by omega) (by omega), hW _ _ (by omega)]
    exact g5 a h1 h2
  · rw [n0] at hi
    rw [hc _ (by omega)] at hk
    exact (p8 h0).1 i k hi hk
  · rw [n2] at hj
    exact (p8 h0).2 j hj
  · have g := p9.1
    rw [n1, fMoney_V (S := S)]
    rw [fMoney_V (S := S)] at g
    exact g
  · rw [n0] at hi
    rw [hc _ (by omega)] at hk
    have g := p9.2 i hi k hk
    have fo : ∀ n, fOver S' i n = fOver S0 i n := by
      intro n
      induction n with
      | zero => rfl
      | succ n ih =>
        show (if sV S' (160 + 8 * i + n) 423 = 0 then fOver S' i n else sV S' (160 + 8 * i + n) 418) = (if sV S' (160 + 8 * i + n) 423 = 0 then fOver S0 i n else sV S' (160 + 8 * i + n) 418)
        rw [ih]
    rw [fo]
    exact g
theorem cnt_add1 {p q : Nat → Bool} {a : Nat} (h : ∀ i, i ≠ a → q i = p i) : ∀ n, cnt q n ≤ cnt p n + 1
  | 0 => Nat.zero_le _
  | n + 1 => by
    rw [cnt_s, cnt_s]
    by_cases g : n = a
    · have e := cnt_congr (p := q) (q := p) n (fun i hi => h i (by omega))
      rw [e]
      split <;> split <;> omega
    · have ih := cnt_add1 h n
      rw [h n g]
      split <;> omega
theorem cnt_hole {p : Nat → Bool} : ∀ n, cnt p n < n → ∃ a, a < n ∧ p a = false
  | n + 1, h => by
    rw [cnt_s] at h
    rcases hp : p n with _ | _
    · exact ⟨n, by omega, hp⟩
    · rw [hp, if_pos rfl] at h
      obtain ⟨a, h1, h2⟩ := cnt_hole (p := p) n (by omega)
      exact ⟨a, by omega, h2⟩
theorem max_of {p : Nat → Bool} {rk : Nat → Nat} : ∀ n, (∃ a, a < n ∧ p a = false) → ∃ a, a < n ∧ p a = false ∧ ∀ b, b < n → p b = false → rk b ≤ rk a
  | 0, h => by
    obtain ⟨a, h1, -⟩ := h
    exact absurd h1 (Nat.not_lt_zero _)
  | n + 1, h => by
    by_cases g : ∃ a, a < n ∧ p a = false
    · obtain ⟨a, h1, h2, h3⟩ := max_of (p := p) (rk := rk) n g
      by_cases g2 : p n = false ∧ rk a < rk n
      · refine ⟨n, by omega, g2.1, fun b hb hp => ?_⟩
        by_cases g3 : b = n
        · rw [g3]
          exact Nat.le_refl _
        · have := h3 b (by omega) hp
          omega
      · refine ⟨a, by omega, h2, fun b hb hp => ?_⟩
        by_cases g3 : b = n
        · rw [g3] at hp ⊢
          exact Nat.le_of_not_lt (fun q => g2 ⟨hp, q⟩)
        · exact h3 b (by omega) hp
    · obtain ⟨a, h1, h2⟩ := h
      have e : a = n := by
        by_cases q : a < n
        · exact absurd ⟨a, q, h2⟩ g
        · omega
      refine ⟨a, h1, h2, fun b hb hp => ?_⟩
      by_cases q : b < n
      · exact absurd ⟨b, q, hp⟩ g
      · rw [show b = a by omega]
        exact Nat.le_refl _
/-- someone is free -/
theorem free_some (h : rCu n (sW S)) (hn : n ≤ 8) {p : Int32} (hp : cnt (bt p) n < n) : ∃ a, a < n ∧ fFrm S a p n = true := by
  obtain ⟨-, -, rk, hrk⟩ := h
  obtain ⟨a, h1, h2, h3⟩ := max_of (rk := rk) n (cnt_hole n hp)
  refine ⟨a, h1, (fFrm_iff (by omega) (by omega)).mpr ⟨h2, fun k hk => ?_⟩⟩
  by_cases g : sW S (1030 + k) a = 0
  · exact Or.inr g
  · refine Or.inl ?_
    rcases hb : bt p k with _ | _
    · have q1 := h3 k hk hb
      have q2 := (hrk k (by omega)).2 a (by omega) g
      omega
    · rfl
/-- free in the class, free in the reference -/
theorem free_eq {T : zSt} (h : rCu n (sW S)) (hn : n ≤ 8) (hT : ∀ k, k < 8 → sW T 12 k = sW S 9 k) {a : Nat} (ha : a < n) {p q : Int32} (hpq : ∀ b, b < 32 → bt p b = (decide (b < n) && !bt q b)) : fFree T a p = fFrm S a q n := by
  obtain ⟨h1, h2, -⟩ := h
  rw [Bool.eq_iff_iff, fFrm_iff (by omega) (by omega)]
  unfold fFree
  rw [Bool.and_eq_true, decide_eq_true_iff, decide_eq_true_iff, b_tst' (by omega), b_dis, hpq a (by omega), decide_eq_true ha, Bool.true_and, Bool.not_eq_true', hT a (by omega)]
  refine and_congr_right (fun _ => ?_)
  constructor
  · intro g k hk
    by_cases g0 : sW S (1030 + k) a = 0
    · exact Or.inr g0
    · have e := (h1 k a (by omega) (by omega)).2.1
      rw [decide_eq_false g0] at e
      have := g k (by omega) (by rw [e]; rfl)
      rw [hpq k (by omega), decide_eq_true hk, Bool.true_and] at this
      refine Or.inl ?_
      simpa using this
  · intro g k hk hb
    rw [hpq k hk]
    by_cases g8 : k < n
    · rw [decide_eq_true g8, Bool.true_and]
      rcases g k g8 with q | q
      · rw [q]
        rfl
      · have e := (h1 k a (by omega) (by omega)).2.1
        rw [decide_eq_true q, hb] at e
        exact absurd e (by decide)
    · rw [decide_eq_false g8]
      rfl
theorem row_free {T : zSt} {p q : Int32} (he : ∀ a, a < n → fFree T a p = fFrm S a q (sc S 1001)) : ∀ j, j ≤ n → fFc T p j = dK S q j ∧ (∀ i, i < dK S q j → fHat2 T p j 13 i = dRow S q j i ∧ ∃ a, a < j ∧ dRow S q j i = nI a ∧ fFrm S a q (sc S 1001) = true)
  | 0, _ => ⟨rfl, fun i hi => absurd hi (Nat.not_lt_zero _)⟩
  | j + 1, hj => by
    obtain ⟨h1, h2⟩ := row_free he j (by omega)
    have e := he j (by omega)
    have f1 : fFc T p (j + 1) = if fFree T j p = true then fFc T p j + 1 else fFc T p j := rfl
    have f2 : dK S q (j + 1) = if fFrm S j q (sc S 1001) = true then dK S q j + 1 else dK S q j := rfl
    have f3 : fHat2 T p (j + 1) = if fFree T j p = true then u2 (fHat2 T p j) 13 (fFc T p j) (nI j) else fHat2 T p j := rfl
    have f4 : dRow S q (j + 1) = if fFrm S j q (sc S 1001) = true then u1 (dRow S q j) (dK S q j) (nI j) else dRow S q j := rfl
    rw [f1, f2, f3, f4, e]
    by_cases g : fFrm S j q (sc S 1001) = true
    · rw [if_pos g, if_pos g, if_pos g, if_pos g, h1]
      refine ⟨rfl, fun i hi => ?_⟩
      by_cases c : i = dK S q j
      · subst c
        rw [u2_at, u1_at]
        exact ⟨rfl, j, by omega, rfl, g⟩
      · obtain ⟨q1, a, q2, q3, q4⟩ := h2 i (by omega)
        rw [u1_ne c, u2_if, if_neg (by omega)]
        exact ⟨q1, a, by omega, q3, q4⟩
    · rw [if_neg g, if_neg g, if_neg g, if_neg g]
      refine ⟨h1, fun i hi => ?_⟩
      obtain ⟨q1, a, q2, q3, q4⟩ := h2 i hi
      exact ⟨q1, a, by omega, q3, q4⟩
theorem dK_pos {q : Int32} {a : Nat} (hf : fFrm S a q (sc S 1001) = true) : ∀ {j : Nat}, a < j → 0 < dK S q j
  | j + 1, h => by
    have f2 : dK S q (j + 1) = if fFrm S j q (sc S 1001) = true then dK S q j + 1 else dK S q j := rfl
    rw [f2]
    by_cases g : a = j
    · rw [← g, if_pos hf]
      omega
    · have := dK_pos hf (show a < j by omega)
      split <;> omega
end ZOP12A
section ZOP12
variable {Z : zPar} {l : Launch} {x m o od : Nat} {S : zSt} {n F zn j : Nat}
abbrev dD (S : zSt) (n F zn j : Nat) : fDst := fDrawn n zn (fCopyA S) (nI F) j
abbrev dOne (S : zSt) (n F zn j : Nat) : Int32 := fOne (dD S n F zn j).1 (dD S n F zn j).2 n (zs zn (j + 1))
def dA (S : zSt) (n F zn j : Nat) : Nat := (dOne S n F zn j).toNatClampNeg
theorem dD_s1 : (dD S n F zn (j + 1)).1 = wW (fOneS (dD S n F zn j).1 (dD S n F zn j).2 n (zs zn (j + 1))) (u2 (sW (fOneS (dD S n F zn j).1 (dD S n F zn j).2 n (zs zn (j + 1)))) 11 j (dOne S n F zn j)) := rfl
theorem dD_s2 : (dD S n F zn (j + 1)).2 = (dD S n F zn j).2 &&& (zbit (dOne S n F zn j) ^^^ (-1)) := rfl
theorem fHat2_r {T : zSt} {p : Int32} {r : Nat} (hr : r ≠ 13) : ∀ j, fHat2 T p j r = sW T r
  | 0 => rfl
  | j + 1 => by
    show (if fFree T j p = true then u2 (fHat2 T p j) 13 (fFc T p j) (nI j) else fHat2 T p j) r = _
    split
    · exact (u2_ne hr).trans (fHat2_r hr j)
    · exact fHat2_r hr j
theorem dD_W {r k : Nat} (hr : ¬ (11 ≤ r ∧ r ≤ 13)) : sW (dD S n F zn j).1 r k = sW S r k := by
  induction j with
  | zero =>
    show u1 (sW S) 12 _ r k = _
    rw [u1_ne (by omega)]
  | succ j ih =>
    rw [dD_s1]
    show u2 (fHat2 (wZ (dD S n F zn j).1 (zs zn (j + 1))) (dD S n F zn j).2 n) 11 j (dOne S n F zn j) r k = _
    rw [u2_if, if_neg (by omega), fHat2_r (by omega)]
    exact ih
theorem dD_12 {k : Nat} (hk : k < 8) : sW (dD S n F zn j).1 12 k = sW S 9 k := by
  induction j with
  | zero =>
    show u1 (sW S) 12 (va_cpy (sW S 9) (sW S 12) 0 0 8) 12 k = _
    rw [u1_at]
    unfold va_cpy
    rw [if_pos (by omega)]
    congr 1
    omega
  | succ j ih =>
    rw [dD_s1]
    show u2 (fHat2 (wZ (dD S n F zn j).1 (zs zn (j + 1))) (dD S n F zn j).2 n) 11 j (dOne S n F zn j) 12 k = _
    rw [u2_if, if_neg (by omega), fHat2_r (by omega)]
    exact ih
theorem dD_11 {k : Nat} : sW (dD S n F zn (j + 1)).1 11 k = if k = j then dOne S n F zn j else sW (dD S n F zn j).1 11 k := by
  rw [dD_s1]
  show u2 (fHat2 (wZ (dD S n F zn j).1 (zs zn (j + 1))) (dD S n F zn j).2 n) 11 j (dOne S n F zn j) 11 k = _
  rw [u2_if, fHat2_r (by omega)]
  by_cases g : k = j
  · rw [if_pos ⟨g, rfl⟩, if_pos g]
  · rw [if_neg (by omega), if_neg g]
theorem dD_V {r k : Nat} (hk : k ≠ 325) : sV (dD S n F zn j).1 r k = sV S r k := by
  induction j with
  | zero => rfl
  | succ j ih =>
    rw [dD_s1]
    show u2 (sV (dD S n F zn j).1) 4 325 _ r k = _
    rw [u2_k hk]
    exact ih
theorem dD_TP : sT (dD S n F zn j).1 = sT S ∧ sP (dD S n F zn j).1 = sP S := by
  induction j with
  | zero => exact ⟨rfl, rfl⟩
  | succ j ih => exact ih
/-- one draw and all before it -/
def dInv (S : zSt) (n F zn j : Nat) : Prop := (∀ b, b < 32 → bt (dD S n F zn j).2 b = (decide (b < n) && !bt (dN (dA S n F zn) j) b)) ∧ cnt (bt (dN (dA S n F zn) j)) n ≤ j
theorem d_step (hR : rRel S) (hn : sc S 1 = n) (hj : j < n) (h : dInv S n F zn j) : dOne S n F zn j = nI (dA S n F zn j) ∧ dA S n F zn j < n ∧ fFrm S (dA S n F zn j) (dN (dA S n F zn) j) n = true ∧ 0 < dK S (dN (dA S n F zn) j) n ∧ dRow S (dN (dA S n F zn) j) n (zs zn (j + 1) % dK S (dN (dA S n F zn) j) n) = nI (dA S n F zn j) := by
  have hcu := hR.cu
  have c1 := hR.c1
  have b1 := hR.b1
  rw [hn] at hcu c1 b1
  obtain ⟨h1, h2⟩ := h
  obtain ⟨a, a1, a2⟩ := free_some hcu b1 (show cnt (bt (dN (dA S n F zn) j)) n < n by omega)
  have he : ∀ a, a < n → fFree (wZ (dD S n F zn j).1 (zs zn (j + 1))) a (dD S n F zn j).2 = fFrm S a (dN (dA S n F zn) j) (sc S 1001) := fun a ha => by
    rw [c1]
    exact free_eq hcu b1 (fun k hk => dD_12 hk) ha h1
  obtain ⟨q1, q2⟩ := row_free he n (Nat.le_refl _)
  have hpos : 0 < dK S (dN (dA S n F zn) j) n := dK_pos (by rw [c1]; exact a2) a1
  obtain ⟨q3, b, b2, b3, b4⟩ := q2 (zs zn (j + 1) % dK S (dN (dA S n F zn) j) n) (Nat.mod_lt _ hpos)
  have e : dOne S n F zn j = nI b := by
    show (if 0 < fFc (wZ (dD S n F zn j).1 (zs zn (j + 1))) (dD S n F zn j).2 n then fHat2 (wZ (dD S n F zn j).1 (zs zn (j + 1))) (dD S n F zn j).2 n 13 (zs zn (j + 1) % fFc (wZ (dD S n F zn j).1 (zs zn (j + 1))) (dD S n F zn j).2 n) else 0) = _
    rw [q1, if_pos hpos, q3, b3]
  have eb : dA S n F zn j = b := by
    unfold dA
    rw [e]
    exact nI_clamp (by omega)
  rw [eb]
  rw [c1] at b4
  exact ⟨e, b2, b4, hpos, b3⟩
theorem d_inv (hR : rRel S) (hn : sc S 1 = n) (hF : F + 1 = 2 ^ n) : ∀ j, j ≤ n → dInv S n F zn j := by
  have b1 := hR.b1
  intro j
  induction j with
  | zero =>
    intro _
    refine ⟨fun b hb => ?_, ?_⟩
    · show bt (nI F) b = (decide (b < n) && !bt 0 b)
      rw [b_nI hb, b_0, Bool.not_false, Bool.and_true, show F = 2 ^ n - 1 by omega, Nat.testBit_two_pow_sub_one]
    · have : cnt (bt 0) n = 0 := by
        have := cnt_congr (p := bt 0) (q := fun _ => false) n (fun i _ => b_0 i)
        rw [this]
        have h0 : ∀ k, cnt (fun _ => false) k = 0 := by
          intro k
          induction k with
          | zero => rfl
          | succ k ih => rw [cnt_s, ih]; rfl
        exact h0 n
      show cnt (bt 0) n ≤ 0
      omega
  | succ j ih =>
    intro hj
    have ih := ih (by omega)
    obtain ⟨e, a1, a2, -, -⟩ := d_step hR hn (by omega) ih
    obtain ⟨i1, i2⟩ := ih
    have eN : ∀ b, b < 32 → bt (dN (dA S n F zn) (j + 1)) b = (bt (dN (dA S n F zn) j) b || decide (dA S n F zn j = b)) := fun b hb => by
      show bt (dN (dA S n F zn) j ||| zbit (nI (dA S n F zn j))) b = _
      rw [b_or, b_z _ (by omega) _ hb]
    refine ⟨fun b hb => ?_, ?_⟩
    · rw [dD_s2, b_and, b_not hb, e, b_z _ (by omega) _ hb, i1 b hb, eN b hb]
      cases decide (b < n) <;> cases bt (dN (dA S n F zn) j) b <;> cases decide (dA S n F zn j = b) <;> rfl
    · have := cnt_add1 (p := bt (dN (dA S n F zn) j)) (q := fun b => bt (dN (dA S n F zn) j) b || decide (dA S n F zn j = b)) (a := dA S n F zn j) (fun i hi => by simp [Ne.symm hi]) n
      rw [cnt_congr (p := bt (dN (dA S n F zn) (j + 1))) (q := fun b => bt (dN (dA S n F zn) j) b || decide (dA S n F zn j = b)) n (fun i hi => eN i (by omega))]
      omega
theorem d_11 (hR : rRel S) (hn : sc S 1 = n) (hF : F + 1 = 2 ^ n) : ∀ j, j ≤ n → ∀ k, k < j → sW (dD S n F zn j).1 11 k = nI (dA S n F zn k) := by
  intro j
  induction j with
  | zero => intro _ k hk; exact absurd hk (Nat.not_lt_zero _)
  | succ j ih =>
    intro hj k hk
    rw [dD_11]
    by_cases g : k = j
    · rw [if_pos g, g]
      exact (d_step hR hn (by omega) (d_inv hR hn hF j (by omega))).1
    · rw [if_neg g]
      exact ih (by omega) k (by omega)
theorem placed_dN {T : zSt} {A : Nat → Nat} : ∀ j, (∀ k, k < j → sW T 11 k = nI (A k)) → fPlaced T j = dN A j
  | 0, _ => rfl
  | j + 1, h => by
    show fPlaced T j ||| zbit (sW T 11 j) = dN A j ||| zbit (nI (A j))
    rw [placed_dN j (fun k hk => h k (by omega)), h j (by omega)]
theorem dSt_V {A : Nat → Nat} {r k : Nat} (h1 : k ≠ 672) (h2 : k ≠ 679) (h3 : k ≠ 681) : ∀ j, sV (dSt S A zn j) r k = if k = 32 ∧ 1300 ≤ r ∧ r < 1300 + j then nI (A (r - 1300)) else sV S r k
  | 0 => by
    rw [if_neg (by omega)]
    show u2 (u2 (sV S) 1001 672 0) 1001 679 1 r k = _
    rw [u2_k h2, u2_k h1]
  | j + 1 => by
    show u2 (u2 (sV (dSt S A zn j)) 1001 681 _) (1300 + sc (dSt S A zn j) 1003) 32 (nI (A j)) r k = _
    rw [dSt_n, u2_if, u2_k h3, dSt_V h1 h2 h3 j]
    by_cases g : k = 32 ∧ r = 1300 + j
    · rw [if_pos g, if_pos (by omega), show r - 1300 = j by omega]
    · rw [if_neg g]
      by_cases g2 : k = 32 ∧ 1300 ≤ r ∧ r < 1300 + j
      · rw [if_pos g2, if_pos (by omega)]
      · rw [if_neg g2, if_neg (by omega)]
theorem dSt_TP {A : Nat → Nat} : sT (dSt S A zn j) = sT S ∧ sP (dSt S A zn j) = sP S := by
  induction j with
  | zero => exact ⟨rfl, rfl⟩
  | succ j ih => exact ih
theorem dSt_679 {A : Nat → Nat} : sV (dSt S A zn j) 1001 679 = 1 ∧ sV (dSt S A zn j) 1001 672 = 0 := by
  induction j with
  | zero =>
    show u2 (u2 (sV S) 1001 672 0) 1001 679 1 1001 679 = 1 ∧ u2 (u2 (sV S) 1001 672 0) 1001 679 1 1001 672 = 0
    rw [u2_at, u2_k (by decide), u2_at]
    exact ⟨rfl, rfl⟩
  | succ j ih =>
    show u2 (u2 (sV (dSt S A zn j)) 1001 681 (nI (zs zn j * 48271 % 2147483647))) (1300 + sc (dSt S A zn j) 1003) 32 (nI (A j)) 1001 679 = 1 ∧ u2 (u2 (sV (dSt S A zn j)) 1001 681 (nI (zs zn j * 48271 % 2147483647))) (1300 + sc (dSt S A zn j) 1003) 32 (nI (A j)) 1001 672 = 0
    rw [u2_k (by decide), u2_k (by decide), u2_k (by decide), u2_k (by decide)]
    exact ih
theorem zs_pos {z : Nat} (h1 : 1 ≤ z) (h2 : z < 2147483647) : ∀ j, 1 ≤ zs z j ∧ zs z j < 2147483647
  | 0 => ⟨h1, h2⟩
  | j + 1 => by
    obtain ⟨g1, g2⟩ := zs_pos h1 h2 j
    have hlt : zs z j * 48271 % 2147483647 < 2147483647 := Nat.mod_lt _ (by decide)
    refine ⟨?_, hlt⟩
    show 1 ≤ zs z j * 48271 % 2147483647
    refine Nat.pos_of_ne_zero (fun h0 => ?_)
    have hd : 2147483647 ∣ zs z j * 48271 := Nat.dvd_of_mod_eq_zero h0
    have hco : Nat.Coprime 2147483647 48271 := by decide +kernel
    have hz := Nat.le_of_dvd g1 (hco.dvd_of_dvd_mul_right hd)
    omega
theorem op_drawLots (hS : rRel S) : zOp0 Z l x m o od mth_X11_drawLots mth_X16_drawLots S vInt := by
  have c0 := hS.c0
  have c1 := hS.c1
  have h3 := hS.h3
  have h4 := hS.h4
  have b1 := hS.b1
  obtain ⟨z, z1, z2, z3, z4⟩ := hS.lo.2.2.2.1
  have hF : (2 ^ sc S 1 - 1) + 1 = 2 ^ sc S 1 := by
    have : 0 < 2 ^ sc S 1 := Nat.two_pow_pos _
    omega
  generalize 2 ^ sc S 1 - 1 = F at hF
  have hin := d_inv (zn := z) hS rfl hF
  have h11 := d_11 (zn := z) hS rfl hF (sc S 1) (Nat.le_refl _)
  have dV : ∀ r k, k ≠ 323 → k ≠ 324 → k ≠ 325 → sV (fDraw S (sc S 1) F z) r k = sV S r k := fun r k h1 h2 h3 => by
    show u2 (u2 (sV (dD S (sc S 1) F z (sc S 1)).1) 4 323 (nI (sc S 1))) 4 324 1 r k = _
    rw [u2_k h2, u2_k h1, dD_V h3]
  have dW : ∀ r k, ¬ (11 ≤ r ∧ r ≤ 13) → sW (fDraw S (sc S 1) F z) r k = sW S r k := fun r k h => dD_W h
  have dc : sc (fDraw S (sc S 1) F z) = sc S := fDrawn_sc (S := fCopyA S) (sc S 1)
  have e4 : sc (fDraw S (sc S 1) F z) 4 = 1 := by rw [dc]; exact h4
  have e323 : sV (fDraw S (sc S 1) F z) 4 323 = nI (sc S 1) := by
    show u2 (u2 (sV (dD S (sc S 1) F z (sc S 1)).1) 4 323 (nI (sc S 1))) 4 324 1 4 323 = _
    rw [u2_k (by decide), u2_at]
  have e324 : sV (fDraw S (sc S 1) F z) 4 324 = 1 := (u2_at : u2 (u2 (sV (dD S (sc S 1) F z (sc S 1)).1) 4 323 (nI (sc S 1))) 4 324 1 4 324 = 1)
  have e325 : sV (fDraw S (sc S 1) F z) 4 325 = nI (zs z (sc S 1)) := by
    show u2 (u2 (sV (dD S (sc S 1) F z (sc S 1)).1) 4 323 (nI (sc S 1))) 4 324 1 4 325 = _
    rw [u2_k (by decide), u2_k (by decide)]
    exact fDrawn_z (S := fCopyA S) z3 _
  have ff : ∀ a p j, fFrm (fDraw S (sc S 1) F z) a p j = fFrm S a p j := fun a p j => by
    unfold fFrm
    rw [show (fun (k : Nat) (b : Bool) => b && (decide (fSb p (nI k) = 1) || decide (sW (fDraw S (sc S 1) F z) (1030 + k) a = 0))) = (fun (k : Nat) (b : Bool) => b && (decide (fSb p (nI k) = 1) || decide (sW S (1030 + k) a = 0))) from funext (fun k => funext (fun b => by rw [dW _ _ (by omega)]))]
  have fK : ∀ p j, dK (fDraw S (sc S 1) F z) p j = dK S p j := fun p j => by
    unfold dK
    rw [show (fun a c => if fFrm (fDraw S (sc S 1) F z) a p (sc (fDraw S (sc S 1) F z) 1001) = true then c + 1 else c) = (fun (a c : Nat) => if fFrm S a p (sc S 1001) = true then c + 1 else c) from funext (fun a => funext (fun c => by rw [ff, dc]))]
  have fR : ∀ p j, dRow (fDraw S (sc S 1) F z) p j = dRow S p j := fun p j => by
    unfold dRow
    rw [show (fun a W => if fFrm (fDraw S (sc S 1) F z) a p (sc (fDraw S (sc S 1) F z) 1001) = true then u1 W (dK (fDraw S (sc S 1) F z) p a) (nI a) else W) = (fun (a : Nat) (W : Nat → Int32) => if fFrm S a p (sc S 1001) = true then u1 W (dK S p a) (nI a) else W) from funext (fun a => funext (fun W => by rw [ff, dc, fK]))]
  have hz4 : sV (fDraw S (sc S 1) F z) 1001 681 = nI z := by
    rw [dV _ _ (by omega) (by omega) (by omega)]
    exact z4
  refine ⟨.int (nI (sc S 1)), fDraw S (sc S 1) F z, dSt (fDraw S (sc S 1) F z) (dA S (sc S 1) F z) z (sc S 1), ⟨_, rfl⟩, cl_g (d := 3) (mc := 0) (ms := 0) (by omega) (by omega) (by omega) (fun Λ M hR => ?_), md_c (d := 7) (mc := 80) (ms := 744) (by omega) (by omega) (by omega) (fun Λ M Q hR hQ => ?_), ?_⟩
  · rw [← e323]
    exact f_drawLots hR h3 hF z3 (by omega)
  · have k := k_drawLots (l := l) (S := fDraw S (sc S 1) F z) (A := dA S (sc S 1) F z) (zn := z) (Q := Q) hR (by rw [dc]; exact h4) hz4 (by omega) (fun k hk => ?_) (by rw [dc, c1]; exact hQ)
    · exact k
    · rw [dc, c1] at hk
      rw [dc, c1, fK, fR]
      obtain ⟨-, a1, -, a3, a4⟩ := d_step hS rfl hk (hin k (by omega))
      exact ⟨a3, a4, by omega⟩
  · have hA := dSt_TP (S := fDraw S (sc S 1) F z) (A := dA S (sc S 1) F z) (zn := z) (j := sc S 1)
    have hD := dD_TP (S := S) (n := sc S 1) (F := F) (zn := z) (j := sc S 1)
    have hW2 : sW (dSt (fDraw S (sc S 1) F z) (dA S (sc S 1) F z) z (sc S 1)) = sW (fDraw S (sc S 1) F z) := dSt_W _
    have hc2 : ∀ q, q ≠ 1003 → sc (dSt (fDraw S (sc S 1) F z) (dA S (sc S 1) F z) z (sc S 1)) q = sc S q := fun q hq => by rw [dSt_c hq, dc]
    have hV2 : ∀ r k, k ≠ 672 → k ≠ 679 → k ≠ 681 → sV (dSt (fDraw S (sc S 1) F z) (dA S (sc S 1) F z) z (sc S 1)) r k = if k = 32 ∧ 1300 ≤ r ∧ r < 1300 + sc S 1 then nI (dA S (sc S 1) F z (r - 1300)) else sV (fDraw S (sc S 1) F z) r k := fun r k h1 h2 h3 => dSt_V h1 h2 h3 _
    refine rel_lots2 hS hc2 (hA.1.trans hD.1) (hA.2.trans hD.2) (fun r k h => by rw [hW2]; exact dW r k h) (fun r k h1 h2 h3 h4 h5 => ?_) ?_
    · rw [hV2 r k h1 h3 h4, if_neg (by omega)]
      exact dV r k (by omega) (by omega) (by omega)
    · have n3 : sc (dSt (fDraw S (sc S 1) F z) (dA S (sc S 1) F z) z (sc S 1)) 1003 = sc S 1 := dSt_n _
      have hz := zs_pos z1 z2 (sc S 1)
      unfold rLo
      rw [n3, hc2 1 (by omega), hV2 4 323 (by omega) (by omega) (by omega), if_neg (by omega), hV2 4 324 (by omega) (by omega) (by omega), if_neg (by omega), hV2 4 325 (by omega) (by omega) (by omega), if_neg (by omega), e323, e324, e325, dSt_679.1, dSt_z hz4, hW2]
      refine ⟨⟨b1, Nat.le_refl _, rfl⟩, fun j hj => ?_, rfl, ⟨_, hz.1, hz.2, rfl, rfl⟩, fun h => absurd h (by decide), fun k hk => ?_⟩
      · rw [hV2 _ 32 (by omega) (by omega) (by omega), if_pos (by omega), show 1300 + j - 1300 = j by omega]
        obtain ⟨-, a1, -⟩ := d_step hS rfl hj (hin j (by omega))
        exact ⟨_, a1, h11 j hj, rfl⟩
      · obtain ⟨-, a1, a2, -⟩ := d_step hS rfl hk (hin k (by omega))
        have hp : fPlaced (dSt (fDraw S (sc S 1) F z) (dA S (sc S 1) F z) z (sc S 1)) k = dN (dA S (sc S 1) F z) k := placed_dN k (fun i hi => by rw [hW2]; exact h11 i (by omega))
        have h12 : sW (dSt (fDraw S (sc S 1) F z) (dA S (sc S 1) F z) z (sc S 1)) 12 (dA S (sc S 1) F z k) = sW S 9 (dA S (sc S 1) F z k) := by
          rw [hW2]
          exact dD_12 (by omega)
        rw [next_eq hS.cu b1 (by omega)] at a2
        unfold fNext at a2
        rw [Bool.and_eq_true, decide_eq_true_iff, decide_eq_true_iff] at a2
        refine ⟨_, a1, by rw [hW2]; exact h11 k hk, ?_, ?_⟩
        · rw [hp]
          exact a2.1
        · rw [hp, h12]
          exact a2.2
end ZOP12
