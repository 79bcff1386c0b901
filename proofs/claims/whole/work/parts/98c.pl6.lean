/-! THE DAY 6: who gathers in a minute -/
def stopN (w x sk s : Nat) : Nat := (w * (x + 1) / 60 - w * x / 60) * (10 * sk + (if 40 < s then 40 else s)) / 100
def goN (s cold : Nat) (w d : Bool) : Nat := s * (cold + (if w = true then 50 else 0) + (if d = true then 10 else 0)) / 100
theorem stopN_le {w x sk s : Nat} (hw : w ≤ 600) (hx : x < 60) (hsk : sk ≤ 9) : stopN w x sk s ≤ 780 := by
  unfold stopN
  have h1 : w * (x + 1) ≤ 600 * 60 := Nat.mul_le_mul hw (by omega)
  have h2 : w * (x + 1) / 60 ≤ 600 := by omega
  have h3 : 10 * sk + (if 40 < s then 40 else s) ≤ 130 := by split <;> omega
  have h4 : (w * (x + 1) / 60 - w * x / 60) * (10 * sk + (if 40 < s then 40 else s)) ≤ 600 * 130 := Nat.mul_le_mul (by omega) h3
  omega
theorem goN_le {s cold : Nat} {w d : Bool} (hc : cold ≤ 40) : goN s cold w d ≤ s := by
  unfold goN
  have h : cold + (if w = true then 50 else 0) + (if d = true then 10 else 0) ≤ 100 := by
    split <;> split <;> omega
  have h2 : s * (cold + (if w = true then 50 else 0) + (if d = true then 10 else 0)) ≤ s * 100 := Nat.mul_le_mul_left _ h
  omega
theorem min_40 {s : Nat} (hs : s < 2 ^ 31) : (if (40 : Int32) < nI s then 40 else nI s) = nI (if 40 < s then 40 else s) := by
  have e : (40 : Int32) < nI s ↔ 40 < s := nI_ltI (a := 40) (by decide) hs
  by_cases g : 40 < s
  · rw [if_pos (e.mpr g), if_pos g]; rfl
  · rw [if_neg (fun q => g (e.mp q)), if_neg g]
theorem min_40' {s : Nat} (hs : s < 2 ^ 31) : (if nI s < (40 : Int32) then nI s else 40) = nI (if 40 < s then 40 else s) := by
  have e : nI s < (40 : Int32) ↔ s < 40 := nI_ltI (b := 40) hs (by decide)
  by_cases g : s < 40
  · rw [if_pos (e.mpr g), if_neg (show ¬ 40 < s by omega)]
  · rw [if_neg (fun q => g (e.mp q))]
    by_cases g2 : 40 < s
    · rw [if_pos g2]; rfl
    · rw [if_neg g2, show s = 40 by omega]; rfl
theorem stop_nat {w x sk s : Nat} (hw : w ≤ 600) (hx : x < 60) (hsk : sk ≤ 9) : (nI w * (nI x + 1) / 60 - nI w * nI x / 60) * (10 * nI sk + nI (if 40 < s then 40 else s)) / 100 = nI (stopN w x sk s) := by
  have h1 : w * (x + 1) ≤ 600 * 60 := Nat.mul_le_mul hw (by omega)
  have h2 : w * x ≤ w * (x + 1) := Nat.mul_le_mul_left _ (by omega)
  have h3 : 10 * sk + (if 40 < s then 40 else s) ≤ 130 := by split <;> omega
  have h4 : (w * (x + 1) / 60 - w * x / 60) * (10 * sk + (if 40 < s then 40 else s)) ≤ 600 * 130 := Nat.mul_le_mul (by omega) h3
  have e60 : (60 : Int32) = nI 60 := rfl
  have e100 : (100 : Int32) = nI 100 := rfl
  have e10 : (10 : Int32) = nI 10 := rfl
  rw [nI_1, e60, e100, e10, pk_mul, pk_mul, pk_mul, pk_div (by omega) (by decide) (by decide), pk_div (by omega) (by decide) (by decide), nI_sub (Nat.div_le_div_right h2), nI_add, pk_mul, pk_div (by omega) (by decide) (by decide)]
  rfl
theorem go_nat {s cold : Nat} {w d : Bool} (hs : s ≤ 1000000) (hc : cold ≤ 40) : nI s * (nI cold + (if w = true then 50 else 0) + (if d = true then 10 else 0)) / 100 = nI (goN s cold w d) := by
  have h : cold + (if w = true then 50 else 0) + (if d = true then 10 else 0) ≤ 100 := by
    split <;> split <;> omega
  have h2 : s * (cold + (if w = true then 50 else 0) + (if d = true then 10 else 0)) ≤ 1000000 * 100 := Nat.mul_le_mul hs h
  have e1 : (if w = true then (50 : Int32) else 0) = nI (if w = true then 50 else 0) := by split <;> rfl
  have e2 : (if d = true then (10 : Int32) else 0) = nI (if d = true then 10 else 0) := by split <;> rfl
  have e100 : (100 : Int32) = nI 100 := rfl
  rw [e1, e2, nI_add, nI_add, e100, pk_mul, pk_div (by omega) (by decide) (by decide)]
  rfl
section ZPL6
variable {S T : zSt} {V V' W W' : Nat → Nat → Int32} {m i j k n a p : Nat} {t : zVp} {A : Nat → Nat → Nat}
/-- the class's four ways in one -/
theorem gath_form {w d : Bool} (hw : gWet t.1 i m = w) (hd : gDrown S (sT S i k) i t = d) : gGath S i k m t = gMove (160 + 8 * i + k) (if w = true then 0 else if d = true then gStop S i k m t.1 / 2 else gStop S i k m t.1) (t.1 (160 + 8 * i + k) 419 * (t.1 5 482 + (if w = true then 50 else 0) + (if d = true then 10 else 0)) / 100) (if d = true then u2 t.1 (160 + 8 * i + k) 422 (t.1 (160 + 8 * i + k) 422 + 1) else t.1) := by
  unfold gGath
  rw [hw, hd]
  have e : t.1 5 482 + Int32.ofInt 10 + Int32.ofInt 50 = t.1 5 482 + 50 + 10 := by
    show t.1 5 482 + 10 + 50 = _
    grind
  cases w <;> cases d
  · simp
  · simp only [if_true, if_false, Bool.false_eq_true, Int32.add_zero]
    rfl
  · simp only [if_true, if_false, Bool.false_eq_true, Int32.add_zero]
    rfl
  · simp only [if_true, e]
theorem gath_V {r key : Nat} {w d : Bool} {x y : Int32} {R : Nat} : gMove R x y (if d = true then u2 V R 422 (V R 422 + 1) else V) r key = if key = 420 ∧ r = R then (if V R 420 < V R 419 + (x - y) then V R 419 + (x - y) else V R 420) else if key = 419 ∧ r = R then V R 419 + (x - y) else if key = 422 ∧ r = R then V R 422 + (if d = true then 1 else 0) else V r key := by
  unfold gMove
  cases d
  · simp only [if_false, Bool.false_eq_true, u2_if, Int32.add_zero]
    by_cases g : key = 422 ∧ r = R
    · obtain ⟨rfl, rfl⟩ := g
      simp
    · simp [g]
  · simp only [if_true, u2_if]
    simp
theorem gathM_V {r key R : Nat} {w d : Bool} {st : Int32} (h : fStdM T i R a m w d = st) : fGoM T i R a m w d r key = if key = 614 ∧ r = R then sV T R 614 + (if d = true then 1 else 0) else if key = 612 ∧ r = R then (if sV T R 612 < st then st else sV T R 612) else if key = 611 ∧ r = R then st else sV T r key := by
  unfold fGoM
  rw [h]
  rfl
theorem wet_eq (hR : rRel S) (hst : pSt S t.1 (sV T)) (hi : i < sc S 0) : gWet t.1 i m = fWetM T i m := by
  unfold gWet fWetM gRain fIn
  rw [hst.1 5 480 (by unfold dC; omega), hst.1 5 481 (by unfold dC; omega), hst.1 _ 354 (by unfold dC; omega), hst.2 1001 682 (by omega) (by unfold dM; omega), hst.2 1001 683 (by omega) (by unfold dM; omega), hst.2 _ 578 (by omega) (by unfold dM; omega), hR.we.1.1, hR.we.1.2.1, (hR.pi i hi).1.2.2]
theorem rain_eq (hR : rRel S) (hst : pSt S V W) : gRain V (nI m) = fIn (nI m) (W 1001 682) (W 1001 683) := by
  unfold gRain fIn
  rw [hst.1 5 480 (by unfold dC; omega), hst.1 5 481 (by unfold dC; omega), hst.2 1001 682 (by omega) (by unfold dM; omega), hst.2 1001 683 (by omega) (by unfold dM; omega), hR.we.1.1, hR.we.1.2.1]
theorem gath_ok (hR : rRel S) (hst : pSt S t.1 (sV T)) (hsm : pSm S T) (h6 : 600 ≤ m) (h12 : m < 1200) (hi : i < sc S 0) (hk : k < sc S (10 + i)) (ha : sT S i k = a) {w d : Bool} (hw : gWet t.1 i m = w) (hd : gDrown S (sT S i k) i t = d) {s : Nat} (hs : t.1 (160 + 8 * i + k) 419 = nI s) (hs' : sV T (1160 + 8 * i + k) 611 = nI s) (hsb : s ≤ 500000) :
    ∃ st : Nat, st ≤ s + 780 ∧ (∀ r key, gGath S i k m t r key = if key = 420 ∧ r = 160 + 8 * i + k then (if t.1 (160 + 8 * i + k) 420 < nI st then nI st else t.1 (160 + 8 * i + k) 420) else if key = 419 ∧ r = 160 + 8 * i + k then nI st else if key = 422 ∧ r = 160 + 8 * i + k then t.1 (160 + 8 * i + k) 422 + (if d = true then 1 else 0) else t.1 r key) ∧
      ∀ r key, fGoM T i (1160 + 8 * i + k) a m w d r key = if key = 614 ∧ r = 1160 + 8 * i + k then sV T (1160 + 8 * i + k) 614 + (if d = true then 1 else 0) else if key = 612 ∧ r = 1160 + 8 * i + k then (if sV T (1160 + 8 * i + k) 612 < nI st then nI st else sV T (1160 + 8 * i + k) 612) else if key = 611 ∧ r = 1160 + 8 * i + k then nI st else sV T r key := by
  have ha1 := (hR.tu i k hi hk).1.1
  rw [ha] at ha1
  obtain ⟨-, -, -, ⟨g3, sk, hsk, hsk1, hsk9⟩, -⟩ := hR.ac a ha1
  obtain ⟨gc, cold, hcold, -, hcold4⟩ := hR.we.2.1
  obtain ⟨gw, wn, hwn, -, hw6⟩ := (hR.pi i hi).2 (m / 60 - 10) (by omega)
  have c1 : t.1 (140 + a) 163 = nI sk := by rw [hst.1 _ 163 (by unfold dC; omega)]; exact hsk
  have c2 : sV T (1140 + a) 546 = nI sk := by rw [hst.2 _ 546 (by omega) (by unfold dM; omega), g3]; exact hsk
  have c3 : t.1 5 482 = nI cold := by rw [hst.1 _ 482 (by unfold dC; omega)]; exact hcold
  have c4 : sV T 1001 684 = nI cold := by rw [hst.2 _ 684 (by omega) (by unfold dM; omega), gc]; exact hcold
  have c5 : sW T (1110 + i) (m / 60 - 10) = nI wn := by rw [hsm.2, gw]; exact hwn
  have hx : m % 60 < 60 := Nat.mod_lt _ (by decide)
  have s1 : gStop S i k m t.1 = nI (stopN wn (m % 60) sk s) := by
    unfold gStop fPass
    rw [ha, c1, hs, min_40 (by omega)]
    show (sW S (110 + i) (m / 60 - 10) * (nI (m % 60) + 1) / 60 - sW S (110 + i) (m / 60 - 10) * nI (m % 60) / 60) * _ / 100 = _
    rw [hwn]
    exact stop_nat hw6 hx hsk9
  have s2 : fStp0 T i (1160 + 8 * i + k) a m = nI (stopN wn (m % 60) sk s) := by
    unfold fStp0 fPassM
    rw [c2, hs', min_40' (by omega), c5]
    exact stop_nat hw6 hx hsk9
  have hle := stopN_le (s := s) hw6 hx hsk9
  have hgo := goN_le (s := s) (w := w) (d := d) hcold4
  have e2 : (if w = true then (0 : Int32) else if d = true then nI (stopN wn (m % 60) sk s) / 2 else nI (stopN wn (m % 60) sk s)) = nI (if w = true then 0 else if d = true then stopN wn (m % 60) sk s / 2 else stopN wn (m % 60) sk s) := by
    split
    · rfl
    · split
      · exact pk_div (d := 2) (by omega) (by decide) (by decide)
      · rfl
  have hst9 : (if w = true then 0 else if d = true then stopN wn (m % 60) sk s / 2 else stopN wn (m % 60) sk s) ≤ 780 := by
    split
    · omega
    · split <;> omega
  have fin : ∀ x y : Nat, y ≤ s → nI s + (nI x - nI y) = nI (s + x - y) := fun x y hy => by
    have : nI s = nI (s - y) + nI y := by rw [nI_add]; congr 1; omega
    rw [this]
    have e : nI (s - y) + nI y + (nI x - nI y) = nI (s - y) + nI x := by grind
    rw [e, nI_add]
    congr 1
    omega
  refine ⟨s + (if w = true then 0 else if d = true then stopN wn (m % 60) sk s / 2 else stopN wn (m % 60) sk s) - goN s cold w d, by omega, fun r key => ?_, fun r key => ?_⟩
  · rw [gath_form hw hd, gath_V (w := w), s1, c3, hs, e2, go_nat (by omega) hcold4, fin _ _ hgo]
  · refine gathM_V ?_
    unfold fStdM fStpM fGoX
    rw [s2, c4, hs', e2, go_nat (by omega) hcold4, if_neg (nI_nlt (by omega) (by omega)), fin _ _ hgo]
end ZPL6
