/-! THE DAY 7: who is drowned; what is given and shared -/
section ZPL7
variable {S T : zSt} {V V' W W' : Nat → Nat → Int32} {m i j k n a p : Nat} {t t' : zVp} {A : Nat → Nat → Nat}
theorem zit_if {c : Nat → Prop} [∀ k, Decidable (c k)] {q : Nat → Bool} : ∀ n, zit (fun k b => if c k then b || q k else b) n false = zany (fun k => decide (c k) && q k) n
  | 0 => rfl
  | n + 1 => by
    show (if c n then zit (fun k b => if c k then b || q k else b) n false || q n else zit (fun k b => if c k then b || q k else b) n false) = (zany (fun k => decide (c k) && q k) n || (decide (c n) && q n))
    rw [zit_if n]
    by_cases g : c n
    · rw [if_pos g, decide_eq_true g, Bool.true_and]
    · rw [if_neg g, decide_eq_false g, Bool.false_and, Bool.or_false]
theorem drown_eq (hR : rRel S) (hst : pSt S t.1 (sV T)) (hsm : pSm S T) (hB : pBs S t m) (hT : pTs S t.1 (sV T)) (hm : m < 2 ^ 31) (hi : i < sc S 0) (ha : a < sc S 1) : fDrM T (sT S) i a (nI m) (sc T 1000) = gDrown S a i t := by
  unfold fDrM gDrown
  rw [zit_if, hsm.1, hR.c0]
  have hl : ∀ b, b < sc S 1 → sV T (1140 + b) 545 = t.1 (140 + b) 162 := fun b hb => by rw [hst.2 _ 545 (by omega) (by unfold dM; omega), hst.1 _ 162 (by unfold dC; omega)]; exact (hR.ac b hb).2.2.1.1
  have hy : ∀ k, k < sc S 0 → sV T (1100 + k) 576 = t.1 (100 + k) 352 := fun k hk => by rw [hst.2 _ 576 (by omega) (by unfold dM; omega), hst.1 _ 352 (by unfold dC; omega)]; exact (hR.pi k hk).1.1.1
  have he : ∀ k, k < sc S 0 → sV T (1100 + k) 577 = t.1 (100 + k) 353 := fun k hk => by rw [hst.2 _ 577 (by omega) (by unfold dM; omega), hst.1 _ 353 (by unfold dC; omega)]; exact (hR.pi k hk).1.2.1.1
  refine zany_congr _ (fun k hk => ?_)
  have hat := mid_at hR hsm hB hT hm hk
  rw [hsm.1] at hat
  unfold gDr
  rcases hpl : t.2.1 k with _ | q
  · rw [hpl] at hat
    rw [decide_eq_false (fun g => hat g.2), Bool.false_and]
    show false = (!decide (k = i) && false)
    rw [Bool.and_false]
  · rw [hpl] at hat
    have hq : q < sc S (10 + k) := by rw [← hR.ck hk]; exact hat.2
    by_cases g : k = i
    · rw [decide_eq_false (fun q2 => q2.1 g), decide_eq_true g]
      rfl
    · rw [decide_eq_true ⟨g, by omega⟩, decide_eq_false g, Bool.true_and]
      show decide _ = (true && decide _)
      rw [Bool.true_and, hat.1]
      unfold fHrM gLoud gYd
      rw [hl a ha, hl (sT S k q) ((hR.tu k q hk hq).1.1), he k hk, hy k hk, hy i hi]
      exact decide_eq_decide.mpr Int32.not_le.symm
theorem drown_to (h1 : ∀ r k, ¬ dC k → t'.1 r k = t.1 r k) (h2 : t'.2 = t.2) : gDrown S a i t' = gDrown S a i t := by
  unfold gDrown
  refine zany_congr _ (fun k _ => ?_)
  unfold gDr gLoud gYd
  rw [h2]
  simp only [h1 _ 162 (by unfold dC; omega), h1 _ 353 (by unfold dC; omega), h1 _ 352 (by unfold dC; omega)]
theorem shareL_k {x : Int32} {r key : Nat} (hk : key ≠ 167) : ∀ j, gShareL a x j V r key = V r key
  | 0 => rfl
  | j + 1 => by
    show (if gShareL a x j V (140 + a) 168 &&& zbit (nI j) = 0 then gShareL a x j V else u2 (gShareL a x j V) (140 + j) 167 (gShareL a x j V (140 + j) 167 + x)) r key = _
    split
    · exact shareL_k hk j
    · rw [u2_if, if_neg (by omega)]
      exact shareL_k hk j
theorem shareL_7 {x : Int32} {b : Nat} : ∀ j, j ≤ 32 → gShareL a x j V (140 + b) 167 = V (140 + b) 167 + (if b < j ∧ bt (V (140 + a) 168) b = true then x else 0)
  | 0, _ => by
    rw [if_neg (by omega), Int32.add_zero]
    rfl
  | j + 1, hj => by
    show (if gShareL a x j V (140 + a) 168 &&& zbit (nI j) = 0 then gShareL a x j V else u2 (gShareL a x j V) (140 + j) 167 (gShareL a x j V (140 + j) 167 + x)) (140 + b) 167 = _
    rw [shareL_k (by omega) j]
    have ih := shareL_7 (x := x) (b := b) j (by omega)
    by_cases g : V (140 + a) 168 &&& zbit (nI j) = 0
    · rw [if_pos g, ih]
      have hb := (b_tst (by omega)).mp g
      by_cases e : b = j
      · subst e
        rw [if_neg (by omega), if_neg (fun q => by rw [hb] at q; exact absurd q.2 (by decide))]
      · by_cases e2 : b < j ∧ bt (V (140 + a) 168) b = true
        · rw [if_pos e2, if_pos ⟨by omega, e2.2⟩]
        · rw [if_neg e2, if_neg (fun q => e2 ⟨by omega, q.2⟩)]
    · rw [if_neg g, u2_if]
      have hb := (b_tst' (by omega)).mp g
      by_cases e : b = j
      · subst e
        rw [if_pos ⟨rfl, rfl⟩, ih, if_neg (by omega), if_pos ⟨by omega, hb⟩, Int32.add_zero]
      · rw [if_neg (by omega), ih]
        by_cases e2 : b < j ∧ bt (V (140 + a) 168) b = true
        · rw [if_pos e2, if_pos ⟨by omega, e2.2⟩]
        · rw [if_neg e2, if_neg (fun q => e2 ⟨by omega, q.2⟩)]
theorem fGm_7 {g e : Int32} {b : Nat} : ∀ n, fGm g e n V (1140 + b) 550 = V (1140 + b) 550 + (if b < n ∧ V (1140 + b) 551 = g then e else 0)
  | 0 => by
    rw [if_neg (by omega), Int32.add_zero]
    rfl
  | n + 1 => by
    show u2 (fGm g e n V) (1140 + n) 550 (fGm g e n V (1140 + n) 550 + (if fGm g e n V (1140 + n) 551 = g then e else 0)) (1140 + b) 550 = _
    rw [u2_if, fGm_g]
    by_cases h : b = n
    · subst h
      rw [if_pos ⟨rfl, rfl⟩, fGm_7 b, if_neg (by omega), Int32.add_zero]
      by_cases e2 : V (1140 + b) 551 = g
      · rw [if_pos e2, if_pos ⟨by omega, e2⟩]
      · rw [if_neg e2, if_neg (fun q => e2 q.2)]
    · rw [if_neg (by omega), fGm_7 n]
      by_cases e2 : b < n ∧ V (1140 + b) 551 = g
      · rw [if_pos e2, if_pos ⟨by omega, e2.2⟩]
      · rw [if_neg e2, if_neg (fun q => e2 ⟨by omega, q.2⟩)]
theorem fGrp_c {g : Int32} : ∀ n, fGrp V g n = nI (cnt (fun b => decide (V (1140 + b) 551 = g)) n)
  | 0 => rfl
  | n + 1 => by
    show fGrp V g n + (if V (1140 + n) 551 = g then 1 else 0) = _
    rw [fGrp_c n, cnt_s]
    by_cases e : V (1140 + n) 551 = g
    · rw [if_pos e, if_pos (decide_eq_true e), nI_1]
    · rw [if_neg e, if_neg (fun q => e (of_decide_eq_true q)), Int32.add_zero, Nat.add_zero]
theorem fMoney_sum {x : Int32} {mem : Nat → Bool} : ∀ n, (∀ b, b < n → V' (140 + b) 167 = V (140 + b) 167 + (if mem b = true then x else 0)) → fMoney (wV S V') n = fMoney (wV S V) n + nI (cnt mem n) * x
  | 0, _ => by
    show (0 : Int32) = 0 + nI 0 * x
    rw [show nI 0 = 0 from rfl]
    grind
  | n + 1, h => by
    show fMoney (wV S V') n + V' (140 + n) 167 = fMoney (wV S V) n + V (140 + n) 167 + nI (cnt mem n + (if mem n = true then 1 else 0)) * x
    rw [fMoney_sum n (fun b hb => h b (by omega)), h n (by omega)]
    by_cases e : mem n = true
    · rw [if_pos e, if_pos e, ← nI_1]
      grind
    · rw [if_neg e, if_neg e, Nat.add_zero]
      grind
/-- what the hat gives, shared: the same on both sides -/
theorem pay_ok (hR : rRel S) (hst : pSt S V (sV T)) (hsm : pSm S T) (hmo : pMo S V (sV T)) (hdy : pDy V (sV T)) (hso : pSo S V) (hi : i < sc S 0) (hk : k < sc S (10 + i)) (ha : sT S i k = a) (h4 : sV T (1160 + 8 * i + k) 611 = V (160 + 8 * i + k) 419) :
    ∃ g : Int32, (∀ r key, gPay3 (160 + 8 * i + k) (gPay2 S i k (gPay1 S i k m V)) r key = if key = 421 ∧ r = 160 + 8 * i + k then g else if key = 167 ∨ key = 230 ∨ key = 231 then gPay3 (160 + 8 * i + k) (gPay2 S i k (gPay1 S i k m V)) r key else V r key) ∧
      (∀ r key, fGv T (1160 + 8 * i + k) a (if fIn (nI m) (sV T 1001 682) (sV T 1001 683) = true then fAllM T (1160 + 8 * i + k) a / 2 else fAllM T (1160 + 8 * i + k) a) r key = if key = 613 ∧ r = 1160 + 8 * i + k then g else if key = 550 ∨ key = 688 then fGv T (1160 + 8 * i + k) a (if fIn (nI m) (sV T 1001 682) (sV T 1001 683) = true then fAllM T (1160 + 8 * i + k) a / 2 else fAllM T (1160 + 8 * i + k) a) r key else sV T r key) ∧
      pMo S (gPay3 (160 + 8 * i + k) (gPay2 S i k (gPay1 S i k m V))) (fGv T (1160 + 8 * i + k) a (if fIn (nI m) (sV T 1001 682) (sV T 1001 683) = true then fAllM T (1160 + 8 * i + k) a / 2 else fAllM T (1160 + 8 * i + k) a)) ∧ pDy (gPay3 (160 + 8 * i + k) (gPay2 S i k (gPay1 S i k m V))) (fGv T (1160 + 8 * i + k) a (if fIn (nI m) (sV T 1001 682) (sV T 1001 683) = true then fAllM T (1160 + 8 * i + k) a / 2 else fAllM T (1160 + 8 * i + k) a)) ∧ pSo S (gPay3 (160 + 8 * i + k) (gPay2 S i k (gPay1 S i k m V))) := by
  have ha1 := (hR.tu i k hi hk).1.1
  rw [ha] at ha1
  have hb1 := hR.b1
  obtain ⟨-, -, -, ⟨g3, -⟩, -, ⟨g5, -⟩, -⟩ := hR.ac a ha1
  obtain ⟨-, hgr⟩ := hR.gr a ha1
  have c1 : sV T (1140 + a) 546 = V (140 + a) 163 := by rw [hst.2 _ 546 (by omega) (by unfold dM; omega), hst.1 _ 163 (by unfold dC; omega)]; exact g3
  have c2 : sV T (1140 + a) 547 = V (140 + a) 165 := by rw [hst.2 _ 547 (by omega) (by unfold dM; omega), hst.1 _ 165 (by unfold dC; omega)]; exact g5
  have c3 : ∀ b, sV T (1140 + b) 551 = sV S (1140 + b) 551 := fun b => hst.2 _ 551 (by omega) (by unfold dM; omega)
  have c4 : V (140 + a) 168 = sV S (140 + a) 168 := hst.1 _ 168 (by unfold dC; omega)
  have eg : gHat (160 + 8 * i + k) (140 + a) (zb (gRain V (nI m))) V = if fIn (nI m) (sV T 1001 682) (sV T 1001 683) = true then fAllM T (1160 + 8 * i + k) a / 2 else fAllM T (1160 + 8 * i + k) a := by
    unfold gHat fAllM
    rw [h4, c1, c2, rain_eq hR hst]
    rcases hf : fIn (nI m) (sV T 1001 682) (sV T 1001 683) with _ | _
    · rfl
    · rfl
  rw [← eg]
  generalize hg : gHat (160 + 8 * i + k) (140 + a) (zb (gRain V (nI m))) V = g at *
  -- the class
  have e1 : gPay1 S i k m V = u2 V (160 + 8 * i + k) 421 g := by
    unfold gPay1
    rw [ha, hg]
  have hcn : fBc (V (140 + a) 168) = nI (cnt (fun b => decide (sV S (1140 + b) 551 = sV S (1140 + a) 551)) (sc S 1)) := by
    rw [c4, fBc_c (fun i h8 h32 => by rw [hgr i h32, decide_eq_false (by omega)]; rfl)]
    congr 1
    have e8 : (8 : Nat) = sc S 1 + (8 - sc S 1) := by omega
    rw [e8, cnt_more (8 - sc S 1) (fun i h1 h2 => by rw [hgr i (by omega), decide_eq_false (by omega)]; rfl)]
    exact cnt_congr _ (fun i hi => by rw [hgr i (by omega), decide_eq_true hi, Bool.true_and])
  generalize hN : cnt (fun b => decide (sV S (1140 + b) 551 = sV S (1140 + a) 551)) (sc S 1) = c at *
  have hc0 : 0 < c := by
    rw [← hN]
    exact cnt_pos (i := a) (decide_eq_true rfl) ha1
  have hc8 : c ≤ 8 := by
    rw [← hN]
    exact Nat.le_trans (cnt_le _) hb1
  have hP : fGvP T a = nI c := by
    unfold fGvP
    rw [fGrp_c, hsm.1, hR.c1, c3 a, ← hN]
    congr 1
    exact cnt_congr _ (fun b _ => by rw [c3 b])
  have v168 : u2 V (160 + 8 * i + k) 421 g (140 + a) 168 = V (140 + a) 168 := u2_nk (by decide)
  have part : gPart a g (u2 V (160 + 8 * i + k) 421 g) = g / nI c := by
    unfold gPart
    rw [v168, hcn, if_neg (nI_nle hc0 (by omega))]
  have e2 : gPay2 S i k (u2 V (160 + 8 * i + k) 421 g) = u2 (gShareL a (g / nI c) (sc S 1) (u2 V (160 + 8 * i + k) 421 g)) (140 + a) 167 (gShareL a (g / nI c) (sc S 1) (u2 V (160 + 8 * i + k) 421 g) (140 + a) 167 + (g - g / nI c * nI c)) := by
    unfold gPay2 gShare
    rw [ha, u2_at, part, v168, hcn]
  have q421 : ∀ r key, key ≠ 167 → gPay2 S i k (gPay1 S i k m V) r key = u2 V (160 + 8 * i + k) 421 g r key := fun r key hk => by
    rw [e1, e2, u2_if, if_neg (by omega), shareL_k hk]
  have q167 : ∀ b, gPay2 S i k (gPay1 S i k m V) (140 + b) 167 = V (140 + b) 167 + (if b < sc S 1 ∧ bt (V (140 + a) 168) b = true then g / nI c else 0) + (if b = a then g - g / nI c * nI c else 0) := fun b => by
    rw [e1, e2, u2_if]
    by_cases h : b = a
    · subst h
      rw [if_pos ⟨rfl, rfl⟩, if_pos rfl, shareL_7 _ (by omega), v168, u2_if, if_neg (by omega)]
    · rw [if_neg (by omega), if_neg h, shareL_7 _ (by omega), v168, u2_if, if_neg (by omega), Int32.add_zero]
  generalize hV2 : gPay2 S i k (gPay1 S i k m V) = V2 at *
  have v3 : ∀ r key, gPay3 (160 + 8 * i + k) V2 r key = if key = 231 ∧ r = 7 then V 7 231 + g else if key = 230 ∧ r = 7 then V 7 230 + g else V2 r key := fun r key => by
    unfold gPay3
    rw [u2_if, u2_if, q421 7 231 (by omega), q421 7 230 (by omega), q421 _ 421 (by omega), u2_at, u2_nk (by omega), u2_nk (by omega)]
  have w3 : ∀ r key, fGv T (1160 + 8 * i + k) a g r key = if key = 550 ∧ r = 1140 + a then sV (fGv1 T (1160 + 8 * i + k) a g (sc T 1001)) (1140 + a) 550 + (g - g / nI c * nI c) else sV (fGv1 T (1160 + 8 * i + k) a g (sc T 1001)) r key := fun r key => by
    unfold fGv
    rw [u2_if, hP]
  have w550 : ∀ b, sV (fGv1 T (1160 + 8 * i + k) a g (sc T 1001)) (1140 + b) 550 = sV T (1140 + b) 550 + (if b < sc S 1 ∧ sV S (1140 + b) 551 = sV S (1140 + a) 551 then g / nI c else 0) := fun b => by
    show fGm (sV T (1140 + a) 551) (g / fGvP T a) (sc T 1001) (u2 (u2 (sV T) _ 613 g) 1001 688 _) (1140 + b) 550 = _
    rw [fGm_7, u2_k (show (550 : Nat) ≠ 688 by omega), u2_k (show (550 : Nat) ≠ 613 by omega), u2_k (show (551 : Nat) ≠ 688 by omega), u2_k (show (551 : Nat) ≠ 613 by omega), hP, hsm.1, hR.c1, c3 a, c3 b]
  have wk : ∀ r key, key ≠ 550 → sV (fGv1 T (1160 + 8 * i + k) a g (sc T 1001)) r key = if key = 688 ∧ r = 1001 then sV T 1001 688 + g else if key = 613 ∧ r = 1160 + 8 * i + k then g else sV T r key := fun r key hk => by
    show fGm (sV T (1140 + a) 551) (g / fGvP T a) (sc T 1001) (u2 (u2 (sV T) _ 613 g) 1001 688 _) r key = _
    rw [fGm_k hk, u2_if, u2_if]
  have hmem : ∀ b, b < sc S 1 → (bt (V (140 + a) 168) b = true ↔ sV S (1140 + b) 551 = sV S (1140 + a) 551) := fun b hb => by
    rw [c4, hgr b (by omega), decide_eq_true hb, Bool.true_and, decide_eq_true_iff]
  refine ⟨g, fun r key => ?_, fun r key => ?_, fun b hb => ?_, ⟨?_, ?_⟩, ?_⟩
  · by_cases h1 : key = 421 ∧ r = 160 + 8 * i + k
    · rw [if_pos h1, v3, if_neg (by omega), if_neg (by omega), q421 _ _ (by omega), h1.1, h1.2, u2_at]
    · rw [if_neg h1]
      by_cases h2 : key = 167 ∨ key = 230 ∨ key = 231
      · rw [if_pos h2]
      · rw [if_neg h2, v3, if_neg (by omega), if_neg (by omega), q421 _ _ (by omega), u2_if, if_neg h1]
  · by_cases h1 : key = 613 ∧ r = 1160 + 8 * i + k
    · rw [if_pos h1, w3, if_neg (by omega), wk _ _ (by omega), if_neg (by omega), if_pos h1]
    · rw [if_neg h1]
      by_cases h2 : key = 550 ∨ key = 688
      · rw [if_pos h2]
      · rw [if_neg h2, w3, if_neg (by omega), wk _ _ (by omega), if_neg (by omega), if_neg h1]
  · rw [v3, if_neg (by omega), if_neg (by omega), q167, w3]
    have hx : (if b < sc S 1 ∧ bt (V (140 + a) 168) b = true then g / nI c else 0) = (if b < sc S 1 ∧ sV S (1140 + b) 551 = sV S (1140 + a) 551 then g / nI c else 0) := by
      by_cases e : sV S (1140 + b) 551 = sV S (1140 + a) 551
      · rw [if_pos ⟨hb, (hmem b hb).mpr e⟩, if_pos ⟨hb, e⟩]
      · rw [if_neg (fun q => e ((hmem b hb).mp q.2)), if_neg (fun q => e q.2)]
    by_cases h : b = a
    · subst h
      rw [if_pos ⟨rfl, rfl⟩, if_pos rfl, w550, hx, hmo b hb]
    · rw [if_neg (by omega), if_neg h, w550, hx, hmo b hb, Int32.add_zero]
  · rw [v3, if_neg (by omega), if_pos ⟨rfl, rfl⟩, w3, if_neg (by omega), wk _ _ (by omega), if_pos ⟨rfl, rfl⟩, hdy.1]
  · rw [v3, if_neg (by omega), if_neg (by omega), w3, if_neg (by omega), wk _ _ (by omega), if_neg (by omega), if_neg (by omega), q421 _ _ (by omega), u2_nk (by omega)]
    exact hdy.2
  · show fMoney (wV S (gPay3 (160 + 8 * i + k) V2)) (sc S 1) = gPay3 (160 + 8 * i + k) V2 7 231 - gPay3 (160 + 8 * i + k) V2 7 232
    rw [v3 7 231, if_pos ⟨rfl, rfl⟩, v3 7 232, if_neg (by omega), if_neg (by omega), q421 _ _ (by omega), u2_nk (by omega)]
    have s1 : fMoney (wV S (gPay3 (160 + 8 * i + k) V2)) (sc S 1) = fMoney (wV S V2) (sc S 1) := fMoney_to (fun b => by rw [v3, if_neg (by omega), if_neg (by omega)]) _
    -- V2 is the shares and the rest
    have s2 : fMoney (wV S V2) (sc S 1) = fMoney (wV S (u2 V2 (140 + a) 167 (V2 (140 + a) 167 - (g - g / nI c * nI c)))) (sc S 1) + (g - g / nI c * nI c) := by
      rw [fMoney_set, if_pos ha1]
      grind
    have s3 : fMoney (wV S (u2 V2 (140 + a) 167 (V2 (140 + a) 167 - (g - g / nI c * nI c)))) (sc S 1) = fMoney (wV S V) (sc S 1) + nI (cnt (fun b => decide (sV S (1140 + b) 551 = sV S (1140 + a) 551)) (sc S 1)) * (g / nI c) := by
      refine fMoney_sum _ (fun b hb => ?_)
      have hx : (if b < sc S 1 ∧ bt (V (140 + a) 168) b = true then g / nI c else 0) = (if decide (sV S (1140 + b) 551 = sV S (1140 + a) 551) = true then g / nI c else 0) := by
        by_cases e : sV S (1140 + b) 551 = sV S (1140 + a) 551
        · rw [if_pos ⟨hb, (hmem b hb).mpr e⟩, if_pos (decide_eq_true e)]
        · rw [if_neg (fun q => e ((hmem b hb).mp q.2)), if_neg (fun q => e (of_decide_eq_true q))]
      rw [u2_if]
      by_cases h : b = a
      · subst h
        rw [if_pos ⟨rfl, rfl⟩, q167, if_pos rfl, hx]
        grind
      · rw [if_neg (by omega), q167, if_neg h, hx, Int32.add_zero]
    have s4 : fMoney (wV S V) (sc S 1) = V 7 231 - V 7 232 := hso
    rw [s1, s2, s3, s4, hN]
    grind
end ZPL7
