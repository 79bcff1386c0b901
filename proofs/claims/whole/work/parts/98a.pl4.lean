/-! THE DAY 4: the visits of a minute -/
section ZPL4
variable {S T : zSt} {V V' W W' : Nat → Nat → Int32} {m i j k n a p : Nat} {t : zVp} {A : Nat → Nat → Nat}
theorem fMoney_set {v : Int32} : ∀ n, fMoney (wV S (u2 V (140 + a) 167 v)) n = if a < n then fMoney (wV S V) n + (v - V (140 + a) 167) else fMoney (wV S V) n
  | 0 => by rw [if_neg (Nat.not_lt_zero _)]; rfl
  | n + 1 => by
    have e : ∀ W : Nat → Nat → Int32, fMoney (wV S W) (n + 1) = fMoney (wV S W) n + W (140 + n) 167 := fun _ => rfl
    rw [e, e, fMoney_set n]
    by_cases g : a = n
    · subst g
      rw [if_neg (Nat.lt_irrefl _), if_pos (by omega), u2_at]
      grind
    · rw [u2_if, if_neg (show ¬ (167 = 167 ∧ 140 + n = 140 + a) by omega)]
      by_cases g2 : a < n
      · rw [if_pos g2, if_pos (by omega)]
        grind
      · rw [if_neg g2, if_neg (by omega)]
/-- three fines, the first gives the kind -/
def fin3 (r : Nat) (f l n : Bool) (V : Nat → Nat → Int32) : Nat → Nat → Int32 := (fun V => if n = true then fFine V r 100 5 else V) ((fun V => if l = true then fFine V r 110 10 else V) ((fun V => if f = true then fFine V r 102 20 else V) V))
theorem fin3_eq {r : Nat} (f l n : Bool) (h1 : V r 450 = 45) (h2 : V r 451 = 0) (s key : Nat) : fin3 r f l n V s key = if key = 450 ∧ s = r then fKndV f l n else if key = 451 ∧ s = r then fSumV f l n else V s key := by
  by_cases g1 : key = 450 ∧ s = r
  · obtain ⟨rfl, rfl⟩ := g1
    cases f <;> cases l <;> cases n <;> simp [fin3, fFine, u2_if, fKndV, h1]
  · rw [if_neg g1]
    by_cases g2 : key = 451 ∧ s = r
    · obtain ⟨rfl, rfl⟩ := g2
      cases f <;> cases l <;> cases n <;> simp [fin3, fFine, u2_if, fSumV, h2]
    · rw [if_neg g2]
      cases f <;> cases l <;> cases n <;> simp [fin3, fFine, u2_if, g1, g2]
theorem zit_or {q : Nat → Bool} : ∀ n, zit (fun k b => b || q k) n false = zany q n
  | 0 => rfl
  | n + 1 => by
    show (zit (fun k b => b || q k) n false || q n) = (zany q n || q n)
    rw [zit_or n]
theorem zany_congr {q q' : Nat → Bool} : ∀ n, (∀ k, k < n → q k = q' k) → zany q n = zany q' n
  | 0, _ => rfl
  | n + 1, h => by
    show (zany q n || q n) = (zany q' n || q' n)
    rw [zany_congr n (fun k hk => h k (by omega)), h n (by omega)]
/-- who plays, on both sides -/
theorem mid_at (hR : rRel S) (hsm : pSm S T) (hB : pBs S t m) (hT : pTs S t.1 (sV T)) (hm : m < 2 ^ 31) (hi : i < sc S 0) : (match t.2.1 i with | none => ¬ fAtM T i (nI m) < sc T (1010 + i) | some k => fAtM T i (nI m) = k ∧ k < sc T (1010 + i)) := by
  have e : sc T (1010 + i) = sc S (10 + i) := by rw [hsm.1]; exact hR.ck hi
  have := at_eq (T := T) (hB i hi) (fun k hk => hT i k hi hk) e hm
  rw [e]
  exact this
theorem near_eq (hR : rRel S) (hst : pSt S t.1 (sV T)) (hsm : pSm S T) (hB : pBs S t m) (hT : pTs S t.1 (sV T)) (hm : m < 2 ^ 31) (hp : p < sc S 0) : fNrM T p m (sc T 1000) = gNear S p (t.1 6 289) t := by
  unfold fNrM gNear
  rw [hsm.1, hR.c0, zit_or]
  have hx : sV T 1001 686 = t.1 6 289 := by rw [hst.2 _ 686 (by omega) (by unfold dM; omega), hst.1 _ 289 (by unfold dC; omega)]; exact hR.we.2.2.2.1
  have hy : ∀ k, k < sc S 0 → sV T (1100 + k) 576 = t.1 (100 + k) 352 := fun k hk => by rw [hst.2 _ 576 (by omega) (by unfold dM; omega), hst.1 _ 352 (by unfold dC; omega)]; exact (hR.pi k hk).1.1.1
  refine zany_congr _ (fun k hk => ?_)
  have hat := mid_at hR hsm hB hT hm hk
  rw [hsm.1] at hat
  unfold gNr
  rw [hx, hy k hk, hy p hp]
  have e1 : decide (¬ k = p) = !decide (k = p) := by simp
  rw [e1, Bool.and_assoc]
  congr 1
  rcases hpl : t.2.1 k with _ | q
  · rw [hpl] at hat
    rw [decide_eq_false hat]
    rfl
  · rw [hpl] at hat
    rw [decide_eq_true (by omega), Bool.true_and]
    show _ = decide (¬ t.1 6 289 ≤ gYd t.1 k p)
    unfold gYd
    exact decide_eq_decide.mpr Int32.not_le.symm
-- frames
theorem gVis_pl : (gVis S m j t).2 = t.2 := by
  unfold gVis
  split
  · rfl
  · split
    · rfl
    · rfl
theorem gVis_none (h : t.2.1 (sP S j) = none) : gVis S m j t = t := by
  unfold gVis
  rw [h]
theorem gVis_not (h : ¬ t.1 (150 + j) 449 = nI m) : gVis S m j t = t := by
  unfold gVis
  split
  · rfl
  · exact if_neg h
theorem gVis_go (h : t.2.1 (sP S j) = some k) (h2 : t.1 (150 + j) 449 = nI m) : gVis S m j t = gJudge S (sT S (sP S j) k) j t := by
  unfold gVis
  rw [h]
  exact if_pos h2
/-- a visit that finds somebody -/
theorem judge_eq (hf : t.1 (150 + j) 450 = 45 ∧ t.1 (150 + j) 451 = 0) {f l n : Bool} (ef : gFire (140 + a) t.1 = f) (el : decide (¬ 10 * t.1 (140 + a) 162 + t.1 (100 + sP S j) 353 ≤ t.1 6 288) = l) (en : gNear S (sP S j) (t.1 6 289) t = n) :
    gJudge S a j t = (u2 (u2 (fin3 (150 + j) f l n t.1) (140 + a) 167 (t.1 (140 + a) 167 - fSumV f l n)) 7 232 (t.1 7 232 + fSumV f l n), t.2.1, t.2.2) := by
  have s1 : gJ1 a j t.1 = (if f = true then fFine t.1 (150 + j) 102 20 else t.1) := by
    unfold gJ1
    rw [ef]
  have k1 : ∀ r key, key ≠ 450 ∧ key ≠ 451 → gJ1 a j t.1 r key = t.1 r key := by
    intro r key hk
    rw [s1]
    split
    · unfold fFine
      rw [u2_if, u2_if, if_neg (by omega), if_neg (by omega)]
    · rfl
  have s2 : gJ2 S a j (gJ1 a j t.1) = (if l = true then fFine (gJ1 a j t.1) (150 + j) 110 10 else gJ1 a j t.1) := by
    unfold gJ2
    rw [k1 (140 + a) 162 (by omega), k1 (100 + sP S j) 353 (by omega), k1 6 288 (by omega)]
    by_cases g : 10 * t.1 (140 + a) 162 + t.1 (100 + sP S j) 353 ≤ t.1 6 288
    · rw [if_pos g, ← el, decide_eq_false (fun q => q g), if_neg (by decide)]
    · rw [if_neg g, ← el, decide_eq_true g, if_pos rfl]
  have k2 : ∀ r key, key ≠ 450 ∧ key ≠ 451 → gJ2 S a j (gJ1 a j t.1) r key = t.1 r key := by
    intro r key hk
    rw [s2]
    split
    · unfold fFine
      rw [u2_if, u2_if, if_neg (by omega), if_neg (by omega)]
      exact k1 r key hk
    · exact k1 r key hk
  have nr : gNear S (sP S j) (gJ2 S a j (gJ1 a j t.1) 6 289) (gJ2 S a j (gJ1 a j t.1), t.2.1, t.2.2) = n := by
    rw [k2 6 289 (by omega), ← en]
    unfold gNear
    refine zany_congr _ (fun k _ => ?_)
    unfold gNr gYd
    simp only [k2 _ 352 (by omega)]
  have s3 : gJ3 S j (gJ2 S a j (gJ1 a j t.1), t.2.1, t.2.2) = fin3 (150 + j) f l n t.1 := by
    unfold gJ3
    rw [nr]
    show (if n = true then fFine (gJ2 S a j (gJ1 a j t.1)) (150 + j) 100 5 else gJ2 S a j (gJ1 a j t.1)) = _
    rw [s2, s1]
    rfl
  have h5 : fin3 (150 + j) f l n t.1 (150 + j) 451 = fSumV f l n := by
    rw [fin3_eq f l n hf.1 hf.2, if_neg (by omega), if_pos ⟨rfl, rfl⟩]
  have h6 : fin3 (150 + j) f l n t.1 (140 + a) 167 = t.1 (140 + a) 167 := by
    rw [fin3_eq f l n hf.1 hf.2, if_neg (by omega), if_neg (by omega)]
  have h7 : fin3 (150 + j) f l n t.1 7 232 = t.1 7 232 := by
    rw [fin3_eq f l n hf.1 hf.2, if_neg (by omega), if_neg (by omega)]
  unfold gJudge
  rw [s3]
  unfold gJ4
  rw [h5, h6, h7]
end ZPL4
