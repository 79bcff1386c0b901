/-! THE DAY 11: its room: each turn gives once, each visit comes once -/
def pot (S : zSt) (al : Nat → Nat → Bool) : Nat := zit (fun i c => c + cnt (al i) (sc S (10 + i))) (sc S 0) 0
def alv (m k : Nat) (t : zVp) (i x : Nat) : Bool := decide (t.1 (160 + 8 * i + x) 423 = 0) || decide (if i < k then nI m < t.1 (160 + 8 * i + x) 418 else nI m ≤ t.1 (160 + 8 * i + x) 418)
section ZPLB
variable {S T T0 : zSt} {V V' V2 W W' : Nat → Nat → Int32} {m i j k n a p nx : Nat} {t t' : zVp} {al al' : Nat → Nat → Bool}
theorem pot_mono_n : ∀ n, (∀ i x, i < n → x < sc S (10 + i) → al i x = true → al' i x = true) → zit (fun i c => c + cnt (al i) (sc S (10 + i))) n 0 ≤ zit (fun i c => c + cnt (al' i) (sc S (10 + i))) n 0
  | 0, _ => Nat.le_refl _
  | n + 1, h => by
    have h1 := pot_mono_n n (fun i x hi hx => h i x (by omega) hx)
    have h2 := cnt_mono (p := al n) (q := al' n) (sc S (10 + n)) (fun x hx => h n x (by omega) hx)
    show _ + cnt (al n) (sc S (10 + n)) ≤ _ + cnt (al' n) (sc S (10 + n))
    omega
theorem pot_mono (h : ∀ i x, i < sc S 0 → x < sc S (10 + i) → al i x = true → al' i x = true) : pot S al ≤ pot S al' := pot_mono_n _ h
theorem pot_lt_n {y z : Nat} (hz : z < sc S (10 + y)) (h1 : al y z = false) (h2 : al' y z = true) : ∀ n, y < n → (∀ i x, i < n → x < sc S (10 + i) → al i x = true → al' i x = true) → zit (fun i c => c + cnt (al i) (sc S (10 + i))) n 0 + 1 ≤ zit (fun i c => c + cnt (al' i) (sc S (10 + i))) n 0
  | n + 1, hy, h => by
    show _ + cnt (al n) (sc S (10 + n)) + 1 ≤ _ + cnt (al' n) (sc S (10 + n))
    by_cases g : y = n
    · subst g
      have q1 := pot_mono_n (S := S) (al := al) (al' := al') y (fun i x hi hx => h i x (by omega) hx)
      have q2 := cnt_mono_lt (p := al y) (q := al' y) h1 h2 hz (fun x hx => h y x (by omega) hx)
      omega
    · have q1 := pot_lt_n hz h1 h2 n (by omega) (fun i x hi hx => h i x (by omega) hx)
      have q2 := cnt_mono (p := al n) (q := al' n) (sc S (10 + n)) (fun x hx => h n x (by omega) hx)
      omega
theorem pot_lt {y z : Nat} (hy : y < sc S 0) (hz : z < sc S (10 + y)) (h1 : al y z = false) (h2 : al' y z = true) (h : ∀ i x, i < sc S 0 → x < sc S (10 + i) → al i x = true → al' i x = true) : pot S al + 1 ≤ pot S al' := pot_lt_n hz h1 h2 _ hy h
theorem pot_le (hR : rRel S) : pot S al ≤ 48 := by
  have key : ∀ n, n ≤ sc S 0 → zit (fun i c => c + cnt (al i) (sc S (10 + i))) n 0 ≤ 8 * n := by
    intro n
    induction n with
    | zero => intro _; exact Nat.le_refl _
    | succ n ih =>
      intro hn
      have h1 := ih (by omega)
      have h2 := cnt_le (p := al n) (sc S (10 + n))
      have h3 := hR.bk (show n < sc S 0 by omega)
      show _ + cnt (al n) (sc S (10 + n)) ≤ _
      omega
  have h1 := key (sc S 0) (Nat.le_refl _)
  have h2 := hR.b0
  show zit (fun i c => c + cnt (al i) (sc S (10 + i))) (sc S 0) 0 ≤ 48
  omega
-- the class's step: what it does to last minutes
theorem pay_k {r key : Nat} (h : key ≠ 167 ∧ key ≠ 230 ∧ key ≠ 231 ∧ key ≠ 421) : gPay3 (160 + 8 * i + k) (gPay2 S i k (gPay1 S i k m V)) r key = V r key := by
  unfold gPay3 gPay2 gShare
  rw [u2_k h.2.2.1, u2_k h.2.1, u2_k h.1, shareL_k h.1]
  unfold gPay1
  rw [u2_k h.2.2.2]
theorem gStep_418 {r : Nat} : (gStep S m i t).1 r 423 = t.1 r 423 ∧ ((gStep S m i t).1 r 418 = t.1 r 418 ∨ ((gStep S m i t).1 r 418 = nI m ∧ ∃ k, t.2.1 i = some k ∧ r = 160 + 8 * i + k)) := by
  rcases hpl : t.2.1 i with _ | k
  · rw [gStep_none hpl]
    exact ⟨rfl, Or.inl rfl⟩
  · rw [gStep_some hpl]
    have fg : ∀ key, key = 418 ∨ key = 423 → gGath S i k m t r key = t.1 r key := fun key hk => by
      rw [gath_form rfl rfl, gath_V (w := true), if_neg (by omega), if_neg (by omega), if_neg (by omega)]
    show gEndV S i k m (gGath S i k m t) r 423 = _ ∧ (gEndV S i k m (gGath S i k m t) r 418 = _ ∨ (gEndV S i k m (gGath S i k m t) r 418 = _ ∧ _))
    rw [← fg 418 (Or.inl rfl), ← fg 423 (Or.inr rfl)]
    generalize gGath S i k m t = V1
    unfold gEndV
    split
    · refine ⟨by rw [u2_k (by omega), u2_k (by omega)], ?_⟩
      rw [u2_if]
      by_cases g : r = 160 + 8 * i + k
      · rw [if_pos ⟨rfl, g⟩]
        exact Or.inr ⟨rfl, k, rfl, g⟩
      · rw [if_neg (by omega), u2_k (by omega)]
        exact Or.inl rfl
    · split
      · rw [pay_k (by omega), pay_k (by omega)]
        exact ⟨rfl, Or.inl rfl⟩
      · exact ⟨rfl, Or.inl rfl⟩
theorem alv_step (hR : rRel S) (hk : k < sc S 0) (hpl : ∀ x, t.2.1 k = some x → x < sc S (10 + k)) : ∀ i x, i < sc S 0 → x < sc S (10 + i) → alv m (k + 1) (gStep S m k t) i x = true → alv m k t i x = true := by
  intro i x hi hx h
  have hn := hR.bk hi
  have hnk := hR.bk hk
  obtain ⟨g1, g2⟩ := gStep_418 (S := S) (m := m) (i := k) (t := t) (r := 160 + 8 * i + x)
  unfold alv at h ⊢
  rw [Bool.or_eq_true, decide_eq_true_iff, decide_eq_true_iff] at h ⊢
  rw [g1] at h
  rcases h with h | h
  · exact Or.inl h
  · refine Or.inr ?_
    rcases g2 with g2 | ⟨g2, y, hy, e⟩
    · rw [g2] at h
      by_cases c : i < k
      · rw [if_pos c]
        rw [if_pos (by omega)] at h
        exact h
      · rw [if_neg c]
        by_cases c2 : i < k + 1
        · rw [if_pos c2] at h
          exact Int32.le_of_lt h
        · rw [if_neg c2] at h
          exact h
    · have := hpl y hy
      have c : i = k := by omega
      rw [g2, if_pos (by omega)] at h
      exact (Int32.lt_irrefl h).elim
-- the class's opening: what it does to last minutes
theorem gClose_k {r key : Nat} (hk : key ≠ 358) : (gClose i m t).1 r key = t.1 r key ∧ (gClose i m t).2.2 = t.2.2 := by
  unfold gClose
  split
  · exact ⟨rfl, rfl⟩
  · split
    · exact ⟨rfl, rfl⟩
    · exact ⟨u2_k hk _, rfl⟩
theorem gMin_418 {r key : Nat} (hk : key = 418 ∨ key = 423) : (gMin S i m t).1 r key = t.1 r key ∨ (t.2.2 i < sc S (10 + i) ∧ r = 160 + 8 * i + t.2.2 i ∧ (key = 423 → (gMin S i m t).1 r key = 1)) := by
  obtain ⟨c1, c2⟩ := gClose_k (i := i) (m := m) (t := t) (r := r) (key := key) (by omega)
  rw [← c1, ← c2]
  unfold gMin
  generalize gClose i m t = t1
  unfold gStart
  split
  · split
    · rename_i h9
      unfold gBegin
      split
      · exact Or.inl (u2_k (by omega) _)
      · show u2 (gOpen S i (t1.2.2 i) (nI m) t1.1) (100 + i) 357 _ r key = _ ∨ (_ ∧ _ ∧ (key = 423 → u2 (gOpen S i (t1.2.2 i) (nI m) t1.1) (100 + i) 357 _ r key = 1))
        rw [u2_k (by omega)]
        unfold gOpen
        rw [u2_if, u2_if, u2_if]
        by_cases g : r = 160 + 8 * i + t1.2.2 i
        · refine Or.inr ⟨h9.2, g, fun e => ?_⟩
          rw [if_pos ⟨e, g⟩]
        · rw [if_neg (fun q => g q.2), if_neg (fun q => g q.2), if_neg (fun q => g q.2)]
          exact Or.inl rfl
    · exact Or.inl rfl
  · exact Or.inl rfl
theorem pA_nx (h : pA V (some nx) p i n m ∨ pA V none p i n m) (hp : p < n) : V (160 + 8 * i + p) 423 = 0 := by
  rcases h with h | h
  · obtain ⟨q, b, e, ⟨h1, h2, h3, h4⟩, -, h5⟩ := h
    rcases h5 with ⟨c, -⟩ | ⟨c, c2, c3, -⟩
    · cases c
    · exact h4 p (by omega) hp
  · obtain ⟨q, b, e, ⟨h1, h2, h3, h4⟩, -, h5⟩ := h
    rcases h5 with ⟨c, -, c2⟩ | ⟨c, -⟩
    · rcases c2 with ⟨c3, -⟩ | ⟨c3, -⟩
      · exact h4 p (by omega) hp
      · omega
    · cases c
theorem open_418 (hR : rRel S) (h6 : 600 ≤ m) (h12 : m < 1200) (h : pRel S m t T) {r : Nat} : ∀ j, j ≤ sc S 0 → ((gMinAll S m j t).1 r 423 = 0 → t.1 r 423 = 0) ∧ ((gMinAll S m j t).1 r 418 = t.1 r 418 ∨ t.1 r 423 = 0)
  | 0, _ => ⟨fun h => h, Or.inl rfl⟩
  | j + 1, hj => by
    obtain ⟨h1, h2⟩ := open_418 hR h6 h12 h (r := r) j (by omega)
    have hA := (open_ok hR h6 h12 h j (by omega)).1 j (by omega)
    rw [if_neg (Nat.lt_irrefl _)] at hA
    have e : gMinAll S m (j + 1) t = gMin S j m (gMinAll S m j t) := rfl
    rw [e]
    refine ⟨fun g => ?_, ?_⟩
    · rcases gMin_418 (S := S) (i := j) (m := m) (t := gMinAll S m j t) (r := r) (Or.inr rfl : (423 : Nat) = 418 ∨ (423 : Nat) = 423) with q | ⟨-, -, q⟩
      · exact h1 (q.symm.trans g)
      · rw [q rfl] at g
        exact absurd g (by decide)
    · rcases gMin_418 (S := S) (i := j) (m := m) (t := gMinAll S m j t) (r := r) (Or.inl rfl : (418 : Nat) = 418 ∨ (418 : Nat) = 423) with q | ⟨q1, q2, -⟩
      · rcases h2 with h2 | h2
        · exact Or.inl (q.trans h2)
        · exact Or.inr h2
      · refine Or.inr (h1 ?_)
        rw [q2]
        rcases hpl : (gMinAll S m j t).2.1 j with _ | y
        · rw [hpl] at hA
          exact pA_nx (nx := 0) (Or.inr hA) q1
        · rw [hpl] at hA
          exact pA_nx (Or.inl hA) q1
theorem gVis_k {r key : Nat} (hk : key = 418 ∨ key = 423) : (gVis S m j t).1 r key = t.1 r key := by
  unfold gVis
  split
  · rfl
  · split
    · have f : ∀ (V : Nat → Nat → Int32) (x : Nat) (w y : Int32), fFine V x w y r key = V r key := fun V x w y => by
        unfold fFine
        rw [u2_k (by omega), u2_k (by omega)]
      unfold gJudge gJ4
      show u2 (u2 (gJ3 S j _) _ 167 _) 7 232 _ r key = _
      rw [u2_k (by omega), u2_k (by omega)]
      unfold gJ3
      split
      · rw [f]
        show gJ2 S _ j (gJ1 _ j t.1) r key = _
        unfold gJ2
        split
        · unfold gJ1
          split
          · rw [f]
          · rfl
        · rw [f]
          unfold gJ1
          split
          · rw [f]
          · rfl
      · show gJ2 S _ j (gJ1 _ j t.1) r key = _
        unfold gJ2
        split
        · unfold gJ1
          split
          · rw [f]
          · rfl
        · rw [f]
          unfold gJ1
          split
          · rw [f]
          · rfl
    · rfl
theorem gVisAll_k {r key : Nat} (hk : key = 418 ∨ key = 423) : ∀ n, (gVisAll S m n t).1 r key = t.1 r key
  | 0 => rfl
  | n + 1 => (gVis_k hk).trans (gVisAll_k hk n)
theorem alv_open (hR : rRel S) (h6 : 600 ≤ m) (h12 : m < 1200) (h : pRel S m t T) : ∀ i x, i < sc S 0 → x < sc S (10 + i) → alv m 0 (gVisAll S m (sc S 2) (gMinAll S m (sc S 0) t)) i x = true → alv m 0 t i x = true := by
  intro i x hi hx g
  obtain ⟨h1, h2⟩ := open_418 hR h6 h12 h (r := 160 + 8 * i + x) (sc S 0) (Nat.le_refl _)
  unfold alv at g ⊢
  rw [Bool.or_eq_true, decide_eq_true_iff, decide_eq_true_iff, if_neg (Nat.not_lt_zero _)] at g ⊢
  rw [gVisAll_k (Or.inl rfl), gVisAll_k (Or.inr rfl)] at g
  rcases g with g | g
  · exact Or.inl (h1 g)
  · rcases h2 with h2 | h2
    · rw [h2] at g
      exact Or.inr g
    · exact Or.inl h2
theorem alv_next (h12 : m < 1200) (i x : Nat) (hi : i < sc S 0) (g : alv (m + 1) 0 t i x = true) : alv m (sc S 0) t i x = true := by
  unfold alv at g ⊢
  rw [Bool.or_eq_true, decide_eq_true_iff, decide_eq_true_iff] at g ⊢
  rcases g with g | g
  · exact Or.inl g
  · refine Or.inr ?_
    rw [if_neg (Nat.not_lt_zero _)] at g
    rw [if_pos hi]
    exact Int32.lt_of_lt_of_le (nI_lt (Nat.lt_succ_self m) (by omega)) g
-- visits
theorem cnt_add {p q r : Nat → Bool} : ∀ n, (∀ v, v < n → p v = true → q v = true → False) → (∀ v, v < n → p v = true ∨ q v = true → r v = true) → cnt p n + cnt q n ≤ cnt r n
  | 0, _, _ => Nat.le_refl _
  | n + 1, h1, h2 => by
    have ih := cnt_add n (fun v hv => h1 v (by omega)) (fun v hv => h2 v (by omega))
    rw [cnt_s, cnt_s, cnt_s]
    have a1 := h1 n (by omega)
    have a2 := h2 n (by omega)
    rcases hp : p n with _ | _
    · rcases hq : q n with _ | _
      · simp
        omega
      · rw [a2 (Or.inr hq)]
        simp
        omega
    · rcases hq : q n with _ | _
      · rw [a2 (Or.inl hp)]
        simp
        omega
      · exact (a1 hp hq).elim
theorem cVis_c {mm : Nat} : ∀ n, cVis T mm n = cnt (fun v => decide (sV T (1150 + v) 641 = nI mm)) n
  | 0 => rfl
  | n + 1 => by
    show cVis T mm n + (if sV T (1150 + n) 641 = nI mm then 1 else 0) = _
    rw [cVis_c n, cnt_s]
    by_cases e : sV T (1150 + n) 641 = nI mm
    · rw [if_pos e, if_pos (decide_eq_true e)]
    · rw [if_neg e, if_neg (fun q => e (of_decide_eq_true q))]
theorem fGoM_k {x r key : Nat} {w dr : Bool} (h : key ≠ 611 ∧ key ≠ 612 ∧ key ≠ 614) : fGoM T i x a m w dr r key = sV T r key := by
  unfold fGoM
  rw [u2_k h.2.2, u2_k h.2.1, u2_k h.1]
/-- what is left of gives and of visits -/
def pCf (S : zSt) (j k : Nat) : Nat := pot S (alv (600 + j) k (gStepAll S (600 + j) k (gVisAll S (600 + j) (sc S 2) (gMinAll S (600 + j) (sc S 0) (gTj S j)))))
def pGf (S : zSt) (j : Nat) : Nat := pot S (alv (600 + j) 0 (gTj S j))
def pVr (S : zSt) (j : Nat) : Nat := cnt (fun v => decide (600 + j ≤ (sV S (150 + v) 449).toNatClampNeg)) (sc S 2)
theorem room_C (hR : rRel S) {A : Nat → Nat → Nat} {B : Nat → Nat} (hA : A = sT S) (hB : B = sP S) (hT : ∀ j, j ≤ 600 → pRel S (600 + j) (gTj S j) (mPl T0 A B j)) (hc : sc T0 = sc S) : ∀ j, j < 600 → ∀ k, k < sc S 1000 → pCf S j (k + 1) ≤ pCf S j k ∧ (fAtM (mM4 (mPl T0 A B j) A B (600 + j) k) k (nI (600 + j)) < sc S (1010 + k) → fGivM (wV (mM4 (mPl T0 A B j) A B (600 + j) k) (fGoM (mM4 (mPl T0 A B j) A B (600 + j) k) k (1160 + 8 * k + fAtM (mM4 (mPl T0 A B j) A B (600 + j) k) k (nI (600 + j))) (A k (fAtM (mM4 (mPl T0 A B j) A B (600 + j) k) k (nI (600 + j)))) (600 + j) (fWetM (mM4 (mPl T0 A B j) A B (600 + j) k) k (600 + j)) (fDrk (mM2 (mPl T0 A B j) A B (600 + j)) A (600 + j) k))) (1160 + 8 * k + fAtM (mM4 (mPl T0 A B j) A B (600 + j) k) k (nI (600 + j))) (600 + j) → pCf S j (k + 1) + 1 ≤ pCf S j k) := by
  subst hA
  subst hB
  intro j hj k hk
  rw [hR.c0] at hk
  have hs := min_stp hR (show 600 ≤ 600 + j by omega) (by omega) (hT j (by omega)) k (by omega)
  obtain ⟨⟨hst, hsm⟩, hph, hTs, -⟩ := hs
  have hpk := hph k hk
  rw [if_neg (Nat.lt_irrefl _)] at hpk
  have hat := at_eq (T := mM4 (mPl T0 (sT S) (sP S) j) (sT S) (sP S) (600 + j) k) hpk (fun x hx => hTs k x hk hx) (by rw [hsm.1]; exact hR.ck hk) (by omega)
  have e : gStepAll S (600 + j) (k + 1) (gVisAll S (600 + j) (sc S 2) (gMinAll S (600 + j) (sc S 0) (gTj S j))) = gStep S (600 + j) k (gStepAll S (600 + j) k (gVisAll S (600 + j) (sc S 2) (gMinAll S (600 + j) (sc S 0) (gTj S j)))) := rfl
  unfold pCf
  rw [e]
  generalize gStepAll S (600 + j) k (gVisAll S (600 + j) (sc S 2) (gMinAll S (600 + j) (sc S 0) (gTj S j))) = t at *
  generalize mM4 (mPl T0 (sT S) (sP S) j) (sT S) (sP S) (600 + j) k = T at *
  have hb : ∀ x, t.2.1 k = some x → x < sc S (10 + k) := fun x hx => by
    rw [hx] at hat
    exact hat.2
  have mono := alv_step (m := 600 + j) hR hk hb
  refine ⟨pot_mono mono, fun hlt hg => ?_⟩
  rw [hR.ck hk] at hlt
  rcases hpl : t.2.1 k with _ | y
  · rw [hpl] at hat
    exact absurd hlt hat
  · rw [hpl] at hat hpk
    obtain ⟨hy, hyn⟩ := hat
    rw [hy] at hg
    have h610 : nI (600 + j) = sV T (1160 + 8 * k + y) 610 := by
      exact hg.2.trans (fGoM_k (T := T) (i := k) (x := 1160 + 8 * k + y) (a := sT S k y) (m := 600 + j) (w := fWetM T k (600 + j)) (dr := fDrk (mM2 (mPl T0 (sT S) (sP S) j) (sT S) (sP S) (600 + j)) (sT S) (600 + j) k) (r := 1160 + 8 * k + y) (key := 610) (by decide))
    have h418 : t.1 (160 + 8 * k + y) 418 = nI (600 + j) := ((hTs k y hk hyn).2.1.symm.trans h610.symm)
    have hplayed : ¬ t.1 (160 + 8 * k + y) 423 = 0 := by
      obtain ⟨q, b, e, ⟨g1, g2, g3, g4⟩, -, h3⟩ := hpk
      rcases h3 with ⟨h4, -⟩ | ⟨h4, h5, -⟩
      · cases h4
      · have : y = q - 1 := Option.some.inj h4
        exact (g2 y (by omega)).1
    refine pot_lt hk hyn ?_ ?_ mono
    · obtain ⟨g1, g2⟩ := gStep_418 (S := S) (m := 600 + j) (i := k) (t := t) (r := 160 + 8 * k + y)
      have g3 : (gStep S (600 + j) k t).1 (160 + 8 * k + y) 418 = nI (600 + j) := by
        rcases g2 with g2 | ⟨g2, -⟩
        · rw [g2, h418]
        · exact g2
      unfold alv
      rw [g1, decide_eq_false hplayed, g3, Bool.false_or]
      exact decide_eq_false (fun q => by
        rw [if_pos (by omega)] at q
        exact Int32.lt_irrefl q)
    · unfold alv
      rw [Bool.or_eq_true, decide_eq_true_iff, decide_eq_true_iff]
      exact Or.inr (by
        rw [h418, if_neg (Nat.lt_irrefl _)]
        exact Int32.le_refl _)
theorem room_G (hR : rRel S) {T0 : zSt} (hT : ∀ j, j ≤ 600 → pRel S (600 + j) (gTj S j) (mPl T0 (sT S) (sP S) j)) : ∀ j, j < 600 → pCf S j 0 ≤ pGf S j ∧ pGf S (j + 1) ≤ pCf S j (sc S 1000) := by
  intro j hj
  refine ⟨pot_mono (alv_open hR (by omega) (by omega) (hT j (by omega))), ?_⟩
  rw [hR.c0]
  refine pot_mono (fun i x hi hx g => ?_)
  have e : gTj S (j + 1) = gStepAll S (600 + j) (sc S 0) (gVisAll S (600 + j) (sc S 2) (gMinAll S (600 + j) (sc S 0) (gTj S j))) := rfl
  rw [e] at g
  exact alv_next (by omega) i x hi g
theorem room_V (hR : rRel S) {T0 : zSt} (hT : ∀ j, j ≤ 600 → pRel S (600 + j) (gTj S j) (mPl T0 (sT S) (sP S) j)) : ∀ j, j < 600 → cVis (mM1 (mPl T0 (sT S) (sP S) j) (sT S) (600 + j)) (600 + j) (sc S 1002) + pVr S (j + 1) ≤ pVr S j := by
  intro j hj
  rw [cVis_c, hR.c2]
  have hst := (hT j (by omega)).1.1
  have e : ∀ v, v < sc S 2 → sV (mM1 (mPl T0 (sT S) (sP S) j) (sT S) (600 + j)) (1150 + v) 641 = nI ((sV S (150 + v) 449).toNatClampNeg) ∧ (sV S (150 + v) 449).toNatClampNeg < 1200 := fun v hv => by
    obtain ⟨-, ⟨g1, x, g2, -, g3⟩, -⟩ := hR.vi v hv
    have e1 : sV (mM1 (mPl T0 (sT S) (sP S) j) (sT S) (600 + j)) (1150 + v) 641 = sV (mPl T0 (sT S) (sP S) j) (1150 + v) 641 := fB1_k (by omega) (by omega) _
    rw [e1, hst.2 _ 641 (by omega) (by unfold dM; omega), g1, g2, nI_clamp (by omega)]
    exact ⟨rfl, by omega⟩
  unfold pVr
  refine cnt_add _ (fun v hv h1 h2 => ?_) (fun v hv h => ?_)
  · obtain ⟨e1, e2⟩ := e v hv
    have h1 := of_decide_eq_true h1
    have h2 := of_decide_eq_true h2
    rw [e1] at h1
    have := (nI_eq (by omega) (by omega)).mp h1
    omega
  · obtain ⟨e1, e2⟩ := e v hv
    refine decide_eq_true ?_
    rcases h with h | h
    · have h := of_decide_eq_true h
      rw [e1] at h
      have := (nI_eq (by omega) (by omega)).mp h
      omega
    · have h := of_decide_eq_true h
      omega
end ZPLB
