/-! OPERATIONS 14: two turns of a pitch change places, on both sides -/
section ZOP14
variable {Z : zPar} {l : Launch} {x m od o9 : Nat} {S : zSt}
theorem bd2_iff {A : Nat → Nat} {k : Nat} {b : Bool} : ∀ x, fBd2 S A k x b = true ↔ b = true ∨ ∃ y, y < x ∧ ¬ sW S (1030 + A (k + 1 + y)) (A k) = 0
  | 0 => by
    show b = true ↔ _
    constructor
    · exact Or.inl
    · rintro (h | ⟨y, hy, -⟩)
      · exact h
      · exact absurd hy (Nat.not_lt_zero _)
  | x + 1 => by
    show (fBd2 S A k x b || !decide (sW S (1030 + A (k + 1 + x)) (A k) = 0)) = true ↔ _
    rw [Bool.or_eq_true, bd2_iff x, Bool.not_eq_true', decide_eq_false_iff_not]
    constructor
    · rintro ((h | ⟨y, h1, h2⟩) | h)
      · exact Or.inl h
      · exact Or.inr ⟨y, by omega, h2⟩
      · exact Or.inr ⟨x, by omega, h⟩
    · rintro (h | ⟨y, h1, h2⟩)
      · exact Or.inl (Or.inl h)
      · by_cases g : y = x
        · exact Or.inr (by rw [← g]; exact h2)
        · exact Or.inl (Or.inr ⟨y, by omega, h2⟩)
theorem bd1_iff {A : Nat → Nat} {n : Nat} : ∀ m, fBd1 S A n m = true ↔ ∃ k, k < m ∧ ∃ y, y < n - (k + 1) ∧ ¬ sW S (1030 + A (k + 1 + y)) (A k) = 0
  | 0 => by
    show false = true ↔ _
    constructor
    · intro h; cases h
    · rintro ⟨k, hk, -⟩
      exact absurd hk (Nat.not_lt_zero _)
  | m + 1 => by
    show fBd2 S A m (n - (m + 1)) (fBd1 S A n m) = true ↔ _
    rw [bd2_iff, bd1_iff m]
    constructor
    · rintro (⟨k, h1, h2⟩ | h)
      · exact ⟨k, by omega, h2⟩
      · exact ⟨m, by omega, h⟩
    · rintro ⟨k, h1, h2⟩
      by_cases g : k = m
      · exact Or.inr (by rw [← g]; exact h2)
      · exact Or.inl ⟨k, by omega, h2⟩
theorem xb_iff {i t o j b : Nat} (hb : b < 32) (h8 : ∀ j', j' < j → fXa S i t o j' < 32) : bt (fXb S i t o j) b = true ↔ ∃ j', j' < j ∧ fXa S i t o j' = b := by
  induction j with
  | zero =>
    show bt 0 b = true ↔ _
    rw [b_0]
    constructor
    · intro h; cases h
    · rintro ⟨j', h, -⟩
      exact absurd h (Nat.not_lt_zero _)
  | succ j ih =>
    show bt (fXb S i t o j ||| zbit (nI (fXa S i t o j))) b = true ↔ _
    rw [b_or, Bool.or_eq_true, ih (fun j' hj' => h8 j' (by omega)), b_z _ (h8 j (by omega)) _ hb, decide_eq_true_iff]
    constructor
    · rintro (⟨j', h1, h2⟩ | h)
      · exact ⟨j', by omega, h2⟩
      · exact ⟨j, by omega, h⟩
    · rintro ⟨j', h1, h2⟩
      by_cases g : j' = j
      · exact Or.inr (by rw [← g]; exact h2)
      · exact Or.inl ⟨j', by omega, h2⟩
theorem fEx_zsw {p t o : Nat} : fEx p t o = zsw t o p := rfl
theorem zswL {p t o n : Nat} (hp : p < n) (ht : t < n) (ho : o < n) : zsw t o p < n := fEx_lt hp ht ho
theorem zsw_add {c t o k : Nat} : zsw (c + t) (c + o) (c + k) = c + zsw t o k := by
  unfold zsw
  by_cases g1 : k = t
  · rw [if_pos g1, if_pos (by omega)]
  · rw [if_neg g1, if_neg (by omega)]
    by_cases g2 : k = o
    · rw [if_pos g2, if_pos (by omega)]
    · rw [if_neg g2, if_neg (by omega)]
/-- allowed by the class, not bad by the reference -/
theorem exch_eq (hS : rRel S) {i t o : Nat} (hi : i < sc S 0) (ht : t < sc S (10 + i)) (ho : o < sc S (10 + i)) : fAllowX S i t o = !fBd1 S (fun y => sT S i (zsw t o y)) (sc S (10 + i)) (sc S (10 + i)) := by
  have b1 := hS.b1
  have hT : ∀ k, k < sc S (10 + i) → sT S i k < sc S 1 := fun k hk => (hS.tu i k hi hk).1.1
  obtain ⟨hcu, -⟩ := hS.cu
  unfold fAllowX
  generalize hn : sc S (10 + i) = n at *
  have hX : ∀ j, j < n → fXa S i t o j = sT S i (zsw t o (n - 1 - j)) ∧ fXa S i t o j < 8 := fun j hj => by
    have e : fXa S i t o j = sT S i (zsw t o (n - 1 - j)) := by
      unfold fXa
      rw [hn]
      rfl
    rw [e]
    have := hT _ (zswL (show n - 1 - j < n by omega) ht ho)
    exact ⟨rfl, by omega⟩
  congr 1
  rw [Bool.eq_iff_iff, zany_iff, bd1_iff]
  constructor
  · rintro ⟨j, hj, h⟩
    rw [Bool.not_eq_true', decide_eq_false_iff_not, b_dis] at h
    have h : ∃ b, b < 32 ∧ bt (sW S 9 (fXa S i t o j)) b = true ∧ bt (fXb S i t o j) b = true := by
      by_cases g : ∃ b, b < 32 ∧ bt (sW S 9 (fXa S i t o j)) b = true ∧ bt (fXb S i t o j) b = true
      · exact g
      · refine absurd (fun b hb h1 => ?_) h
        rcases h2 : bt (fXb S i t o j) b with _ | _
        · rfl
        · exact absurd ⟨b, hb, h1, h2⟩ g
    obtain ⟨b, hb, h1, h2⟩ := h
    obtain ⟨j', j1, j2⟩ := (xb_iff hb (fun j' hj' => by have := (hX j' (by omega)).2; omega)).mp h2
    obtain ⟨e1, e2⟩ := hX j hj
    obtain ⟨e3, e4⟩ := hX j' (by omega)
    refine ⟨n - 1 - j, by omega, j - j' - 1, by omega, ?_⟩
    rw [show n - 1 - j + 1 + (j - j' - 1) = n - 1 - j' by omega]
    show ¬ sW S (1030 + sT S i (zsw t o (n - 1 - j'))) (sT S i (zsw t o (n - 1 - j))) = 0
    rw [← e1, ← e3]
    have g := (hcu (fXa S i t o j') (fXa S i t o j) e4 e2).2.1
    rw [j2] at g ⊢
    rw [h1] at g
    intro q
    rw [decide_eq_true q] at g
    cases g
  · rintro ⟨k, hk, y, hy, h⟩
    refine ⟨n - 1 - k, by omega, ?_⟩
    have h : ¬ sW S (1030 + sT S i (zsw t o (k + 1 + y))) (sT S i (zsw t o k)) = 0 := h
    obtain ⟨e1, e2⟩ := hX (n - 1 - k) (by omega)
    obtain ⟨e3, e4⟩ := hX (n - 1 - (k + 1 + y)) (by omega)
    rw [show n - 1 - (n - 1 - k) = k by omega] at e1
    rw [show n - 1 - (n - 1 - (k + 1 + y)) = k + 1 + y by omega] at e3
    rw [← e1, ← e3] at h
    rw [Bool.not_eq_true', decide_eq_false_iff_not, b_dis]
    intro q
    have g := (hcu _ _ e4 e2).2.1
    rw [decide_eq_false h] at g
    have := q (fXa S i t o (n - 1 - (k + 1 + y))) (by omega) g
    have h2 := (xb_iff (S := S) (i := i) (t := t) (o := o) (j := n - 1 - k) (b := fXa S i t o (n - 1 - (k + 1 + y))) (by omega) (fun j' hj' => by have := (hX j' (by omega)).2; omega)).mpr ⟨n - 1 - (k + 1 + y), by omega, rfl⟩
    rw [h2] at this
    cases this
theorem bd1_c {T : zSt} {A A' : Nat → Nat} {n : Nat} (hW : ∀ a b, a < 8 → sW T (1030 + a) b = sW S (1030 + a) b) (hA : ∀ y, y < n → A' y = A y ∧ A y < 8) : fBd1 T A' n n = fBd1 S A n n := by
  rw [Bool.eq_iff_iff, bd1_iff, bd1_iff]
  constructor
  · rintro ⟨k, hk, y, hy, h⟩
    refine ⟨k, hk, y, hy, ?_⟩
    obtain ⟨e1, e2⟩ := hA k hk
    obtain ⟨e3, e4⟩ := hA (k + 1 + y) (by omega)
    rw [e1, e3, hW _ _ e4] at h
    exact h
  · rintro ⟨k, hk, y, hy, h⟩
    refine ⟨k, hk, y, hy, ?_⟩
    obtain ⟨e1, e2⟩ := hA k hk
    obtain ⟨e3, e4⟩ := hA (k + 1 + y) (by omega)
    rw [e1, e3, hW _ _ e4]
    exact h
/-- the relation behind the change -/
theorem rel_exch {S2 : zSt} (h : rRel S) (h0 : sV S 7 228 = 0) {i t o : Nat} (hi : i < sc S 0) (ht : t < sc S (10 + i)) (ho : o < sc S (10 + i)) (hc : sc S2 = sc S)
    (hV : ∀ s k, k ≠ 672 → sV S2 s k = sV S (zsw (160 + 8 * i + t) (160 + 8 * i + o) (zsw (1160 + 8 * i + t) (1160 + 8 * i + o) s)) k)
    (hW : ∀ s, s < 160 ∨ (1000 ≤ s ∧ s < 1160) → sW S2 s = sW S s)
    (hT : ∀ j k, sT S2 j k = if j = i then sT S i (zsw t o k) else sT S j k) (hP : ∀ j, j < 6 ∨ j = 1010 → sP S2 j = sP S j) : rRel S2 := by
  have b0 := h.b0
  have b1 := h.b1
  have b2 := h.b2
  have bk := fun i (hi : i < sc S 0) => h.bk hi
  have bki := bk i hi
  have b3 : sc S 1003 ≤ 8 := h.lo.1.1
  have ev : ∀ r, r < 160 ∨ (1000 ≤ r ∧ r < 1160) ∨ 1300 ≤ r → eqV S S2 r := fun r hr k hk => by
    rw [hV r k hk, zsw_n (a := 1160 + 8 * i + t) (by omega) (by omega), zsw_n (by omega) (by omega)]
  have ew : ∀ r, r < 160 ∨ (1000 ≤ r ∧ r < 1160) → eqW S S2 r := fun r hr k => by rw [hW r hr]
  have hkk : ∀ j k, j < sc S 0 → k < sc S (10 + j) → (if j = i then zsw t o k else k) < sc S (10 + j) := fun j k hj hk => by
    split
    · next e => subst e; exact zswL hk ht ho
    · exact hk
  have et : ∀ j k, j < sc S 0 → k < sc S (10 + j) → (∀ key, key ≠ 672 → sV S2 (160 + 8 * j + k) key = sV S (160 + 8 * j + (if j = i then zsw t o k else k)) key) ∧ (∀ key, key ≠ 672 → sV S2 (1160 + 8 * j + k) key = sV S (1160 + 8 * j + (if j = i then zsw t o k else k)) key) ∧ sT S2 j k = sT S j (if j = i then zsw t o k else k) := fun j k hj hk => by
    have := bk j hj
    have q1 : zsw (160 + 8 * i + t) (160 + 8 * i + o) (zsw (1160 + 8 * i + t) (1160 + 8 * i + o) (160 + 8 * j + k)) = 160 + 8 * j + (if j = i then zsw t o k else k) := by
      rw [zsw_n (a := 1160 + 8 * i + t) (by omega) (by omega)]
      by_cases g : j = i
      · rw [if_pos g, g]
        exact zsw_add
      · rw [if_neg g, zsw_n (by omega) (by omega)]
    have q2 : zsw (160 + 8 * i + t) (160 + 8 * i + o) (zsw (1160 + 8 * i + t) (1160 + 8 * i + o) (1160 + 8 * j + k)) = 1160 + 8 * j + (if j = i then zsw t o k else k) := by
      by_cases g : j = i
      · rw [if_pos g, g, zsw_add, zsw_n (by omega) (by omega)]
      · rw [if_neg g, zsw_n (a := 1160 + 8 * i + t) (by omega) (by omega), zsw_n (by omega) (by omega)]
    refine ⟨fun key hk => ?_, fun key hk => ?_, ?_⟩
    · rw [hV _ _ hk, q1]
    · rw [hV _ _ hk, q2]
    · rw [hT]
      split
      · next e => rw [e]
      · rfl
  refine ⟨⟨by rw [hc]; exact h.ct, h.pi.ex (by rw [hc]) (fun i hi => ⟨ev _ (by omega), ev _ (by omega), ew _ (by omega), ew _ (by omega)⟩), h.ac.ex (by rw [hc]) (fun a ha => ⟨ev _ (by omega), ev _ (by omega)⟩), h.gr.ex (by rw [hc]) (fun a ha => ⟨ev _ (by omega), ev _ (by omega)⟩), ?_⟩, ⟨fun j k hj hk => ?_, fun j j2 k k2 hj hj2 hk hk2 hne => ?_, h.vi.ex (by rw [hc]) (by rw [hc]; exact Nat.le_refl _) (fun j hj => hP j (by omega)) (fun j hj => ⟨ev _ (by omega), ev _ (by omega)⟩), h.lo.ex (by rw [hc]) (by rw [hc]; exact Nat.le_refl _) (ev _ (by omega)) (ev _ (by omega)) (fun j hj => ev _ (by omega) 32 (by decide)) (fun r hr => ew r (by omega))⟩, h.we.ex (ev _ (by omega)) (ev _ (by omega)) (ev _ (by omega)), h.da.ex (by rw [hc]) (ev _ (by omega)) (ev _ (by omega)) (ev _ (by omega)) (fun a _ _ => ev _ (by omega) 32 (by decide)) (ew _ (by omega)), fun _ => ⟨fun j k hj hk => ?_, fun j hj => ?_⟩, ⟨?_, fun j hj => fApart_un (fun k hk => ?_)⟩, by rw [hP _ (Or.inr rfl)]; exact h.p10⟩
  · rw [hc]
    exact h.cu.to (fun k => ew 9 (by omega) k) (fun a k ha _ => ew _ (by omega) k)
  · rw [hc] at hj hk
    obtain ⟨q1, q2, q3⟩ := et j k hj hk
    exact rTu1.ex (S := S) (h.tu j _ hj (hkk j k hj hk)) (by rw [hc]; exact Nat.le_refl _) q3 q1 q2
  · rw [hc] at hj hj2 hk hk2
    rw [(et j k hj hk).2.2, (et j2 k2 hj2 hk2).2.2]
    exact h.on _ _ _ _ hj hj2 (hkk j k hj hk) (hkk j2 k2 hj2 hk2) hne
  · rw [hc] at hj hk
    exact rFrT.ex (S := S) ((h.fr h0).1 j _ hj (hkk j k hj hk)) (et j k hj hk).1
  · rw [hc] at hj
    rw [ev _ (by omega) 450 (by decide), ev _ (by omega) 451 (by decide)]
    exact (h.fr h0).2 j hj
  · rw [hc, fMoney_ex (S := S) (S' := S2) _ (fun a ha => ev _ (by omega)), ev 7 (by omega) 231 (by decide), ev 7 (by omega) 232 (by decide)]
    exact h.so.1
  · rw [hc] at hj hk
    rw [(et j k hj hk).1 423 (by decide)]
    exact ((h.fr h0).1 j _ hj (hkk j k hj hk)).1
theorem op_exchange (hS : rRel S) (p q r : Int32) : zOp Z l x m o9 od mth_L_exchange mth_X16_exchange [.ref x, .int p, .int q, .int r, .ref o9] [.ref m, .int p, .int q, .int r] cvZ S := by
  have c0 := hS.c0
  have c1 := hS.c1
  have c2 := hS.c2
  have h3 := hS.h3
  have h4 := hS.h4
  have h5 := hS.h5
  have b0 := hS.b0
  have b1 := hS.b1
  by_cases hx : ¬ p < 0 ∧ ¬ nI (sc S 0) ≤ p
  rotate_left
  · skip
    exact op_ex hS (wr_tw wr_L_exchange h3 (by omega) (by omega) (by omega) (fun Λ M hR => f_exchange_0 hR h3 hx) rfl)
      (md_g (by omega) (by omega) (by omega) (fun Λ M hR => k_exchange_1 hR h4 (by rw [c0]; exact hx))) (by decide)
  obtain ⟨i, hi, rfl⟩ := ix_of (by omega) hx
  have hi' : i < sc S 1000 := by rw [c0]; exact hi
  have ck := hS.ck hi
  have bk := hS.bk hi
  by_cases hy : ¬ q < 0 ∧ ¬ nI (sc S (10 + i)) ≤ q
  rotate_left
  · skip
    exact op_ex hS (wr_tw wr_L_exchange h3 (by omega) (by omega) (by omega) (fun Λ M hR => f_exchange_1 hR h3 hi hy) rfl)
      (md_g (by omega) (by omega) (by omega) (fun Λ M hR => k_exchange_2 hR h4 hi' (by rw [ck]; exact hy))) (by decide)
  obtain ⟨t, ht, rfl⟩ := ix_of (by omega) hy
  have ht' : t < sc S (1010 + i) := by rw [ck]; exact ht
  by_cases hz : ¬ r < 0 ∧ ¬ nI (sc S (10 + i)) ≤ r
  rotate_left
  · skip
    exact op_ex hS (wr_tw wr_L_exchange h3 (by omega) (by omega) (by omega) (fun Λ M hR => f_exchange_2 hR h3 hi ht hz) rfl)
      (md_g (by omega) (by omega) (by omega) (fun Λ M hR => k_exchange_3 hR h4 hi' ht' (by rw [ck]; exact hz))) (by decide)
  obtain ⟨o, ho, rfl⟩ := ix_of (by omega) hz
  have ho' : o < sc S (1010 + i) := by rw [ck]; exact ho
  by_cases hp : sV S 7 228 = 0
  rotate_left
  · skip
    exact op_ex hS (wr_tw wr_L_exchange h3 (by omega) (by omega) (by omega) (fun Λ M hR => f_exchange_3 hR h3 hi ht ho hp) rfl)
      (md_g (by omega) (by omega) (by omega) (fun Λ M hR => k_exchange_4 hR h4 hi' ht' ho' (by rw [hS.da.1.1]; exact hp))) (by decide)
  have hp' : sV S 1001 680 = 0 := by rw [hS.da.1.1]; exact hp
  have hA : ∀ k, k < sc S (10 + i) → sV S (1160 + 8 * i + k) 608 = nI (sT S i k) ∧ sT S i k < 8 := fun k hk => by
    have g := (hS.tu i k hi hk).1
    exact ⟨g.2, by omega⟩
  have hac : ∀ a, a < sc S 1 → sV S (140 + a) 160 = nI a := fun a ha => (hS.ac a ha).1
  have heq := exch_eq hS hi ht ho
  rcases hbd : fBd1 S (fun y => sT S i (zsw t o y)) (sc S (10 + i)) (sc S (10 + i)) with _ | _
  rotate_left
  · rw [hbd] at heq
    exact op_ex2 hS (wr_tw wr_L_exchange h3 (by omega) (by omega) (by omega) (fun Λ M hR => f_exchange_4 hR h3 hi ht ho hac hp heq) rfl)
      (md_g (by omega) (by omega) (by omega) (fun Λ M hR => k_exchange_5 (A := sT S i) hR h4 hi' ht' ho' hp' (fun k hk => hA k (by rw [← ck]; exact hk)) (by rw [ck]; exact hbd))) (by decide)
  rw [hbd] at heq
  generalize hv : zb (!decide (sT (fSwap S i t o) i t = sT (fSwap S i t o) i o)) = v
  have e7 : ∀ r k, r < 160 ∨ 1000 ≤ r → sV (fSwap S i t o) r k = sV S r k := fun r k hr => by
    show sV S (zsw (160 + 8 * i + t) (160 + 8 * i + o) r) k = _
    rw [zsw_n (by omega) (by omega)]
  have e8 : ∀ r, r < 160 ∨ 1000 ≤ r → sW (fSwap S i t o) r = sW S r := fun r hr => by
    show sW S (zsw (160 + 8 * i + t) (160 + 8 * i + o) r) = _
    rw [zsw_n (by omega) (by omega)]
  have eT : ∀ j k, sT (fSwap S i t o) j k = if j = i then sT S i (zsw t o k) else sT S j k := fun j k => rfl
  refine ⟨0, zb (decide (¬ nI (sT S i t) = nI (sT S i o))), _, fSwapM (mT (mT (wP (fSwap S i t o) 1000 (oN (cvZ v))) 0) 0) i t o, wr_ok (d := 5) (mc := 0) (ms := 0) (S1 := fSwap S i t o) (z := v) wr_L_exchange h3 h5 (by omega) (by omega) (by omega) (fun Λ M Q hR hQ => f_exchange hR h3 hi ht ho hac hp heq (by rw [hv]; exact hQ)), ?_, ?_, fun _ => ?_, ?_⟩
  · refine md_c (d := 5) (mc := 3) (ms := 19) (by omega) (by omega) (by omega) (fun Λ M Q hR hQ => ?_)
    refine k_exchange (S := wP (fSwap S i t o) 1000 (oN (cvZ v))) (A := sT S i) hR h4 hi' ht' ho' ?_ (fun k hk => ?_) ?_ (fun M' hR' => hQ _ M' hR' ?_)
    · show sV (fSwap S i t o) 1001 680 = 0
      rw [e7 _ _ (by omega)]
      exact hp'
    · show sV (fSwap S i t o) (1160 + 8 * i + k) 608 = _ ∧ _
      rw [e7 _ _ (by omega)]
      exact hA k (by rw [← ck]; exact hk)
    · rw [← hbd]
      show fBd1 (wP (fSwap S i t o) 1000 (oN (cvZ v))) (fun y => sT S i (zsw t o y)) (sc S (1010 + i)) (sc S (1010 + i)) = _
      rw [ck]
      exact bd1_c (fun a b _ => by
        show sW (fSwap S i t o) (1030 + a) b = _
        rw [e8 _ (by omega)]) (fun y hy => ⟨rfl, (hA _ (zswL hy ht ho)).2⟩)
    · refine ⟨?_, ?_, ?_, ?_⟩
      · show Λ (zsw _ _ 1) = Λ 1
        rw [zsw_n (by omega) (by omega)]
      · show Λ (zsw _ _ 1001) = Λ 1001
        rw [zsw_n (by omega) (by omega)]
      · show Λ (zsw _ _ 40) = Λ 40
        rw [zsw_n (by omega) (by omega)]
      · show Λ (zsw _ _ 41) = Λ 41
        rw [zsw_n (by omega) (by omega)]
  · show u2 (u2 (sV (fSwap S i t o)) 1001 672 0) 1001 672 0 (zsw (1160 + 8 * i + t) (1160 + 8 * i + o) 1001) 672 = 0
    rw [zsw_n (by omega) (by omega), u2_at]
  · show lN (u1 (sP S) 1000 (oN (cvZ v)) 1000) = _
    rw [u1_at, lN_oN, ← hv, eT, eT, if_pos rfl, if_pos rfl, zsw_a, zsw_b]
    congr 2
    have e1 := hA t ht
    have e2 := hA o ho
    rw [Bool.eq_iff_iff, Bool.not_eq_true', decide_eq_false_iff_not, decide_eq_true_iff, nI_eq (by omega) (by omega)]
    exact ⟨fun h e => h e.symm, fun h e => h e.symm⟩
  · refine rel_exch hS hp hi ht ho rfl (fun s k hk => ?_) (fun s hs => ?_) (fun j k => rfl) (fun j hj => u1_ne (by omega))
    · show u2 (u2 (sV (fSwap S i t o)) 1001 672 0) 1001 672 0 (zsw (1160 + 8 * i + t) (1160 + 8 * i + o) s) k = _
      rw [u2_k hk, u2_k hk]
      rfl
    · show sW (fSwap S i t o) (zsw (1160 + 8 * i + t) (1160 + 8 * i + o) s) = _
      rw [zsw_n (by omega) (by omega), e8 _ (by omega)]
end ZOP14
