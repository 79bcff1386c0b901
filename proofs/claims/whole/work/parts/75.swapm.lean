/-! TWO TURNS OF THE MODEL EXCHANGED -/
section ZSWAPM
variable {Z : zPar} {l : Launch} {Λ : Nat → Nat} {S : zSt} {M M2 : zMem} {i t o r s k : Nat} {c : Nat → Nat}
theorem ite_lt {p : Prop} [Decidable p] {a b n : Nat} (h1 : p → a < n) (h2 : ¬ p → b < n) : (if p then a else b) < n := by
  by_cases h : p
  · rw [if_pos h]
    exact h1 h
  · rw [if_neg h]
    exact h2 h
theorem zpt_lt (r k : Nat) : zpt r k < 1140 := by
  unfold zpt
  repeat' (first | omega | refine ite_lt (fun _ => ?_) (fun _ => ?_))
/-- a list's count of changes, and its row's rest, nobody sees -/
theorem zRp.cls (h : zRp Z Λ S M) (hl : zlv (sc S) r) (hk : zki r = 14) (h3 : mK M (Λ (zrw r)) = 3) (hag : ∀ a, mK M a ≠ 0 → a ≠ Λ r → a ≠ Λ (zrw r) → zAg M M2 a)
    (hp : mK M2 (Λ r) = mK M (Λ r) ∧ mN M2 (Λ r) = mN M (Λ r) ∧ mG M2 (Λ r) = mG M (Λ r) ∧ (∀ k, k ≠ 128 → vI M2 (Λ r) k = vI M (Λ r) k) ∧ vR M2 (Λ r) = vR M (Λ r) ∧ aI M2 (Λ r) = aI M (Λ r))
    (he : mK M2 (Λ (zrw r)) = 3 ∧ mN M2 (Λ (zrw r)) = mN M (Λ (zrw r)) ∧ mG M2 (Λ (zrw r)) = mG M (Λ (zrw r)) ∧ ∀ j, j < zct (sc S) r → aR M2 (Λ (zrw r)) j = aR M (Λ (zrw r)) j) : zRp Z Λ S M2 := by
  have hb := h.bnd
  have hr := zlr_of hk
  have hkr : mK M (Λ r) = 14 := (h.kd hl).trans hk
  have hW := h.rw hl hk h3
  have hod : ∀ a, (mK M a = 2 ∨ mK M a = 5 ∨ mK M a = 6 ∨ mK M a = 7 ∨ mK M a = 8 ∨ mK M a = 11) → zAg M M2 a := fun a ha => hag a (by omega) (fun e => by rw [e, hkr] at ha; omega) (fun e => by rw [e, h3] at ha; omega)
  refine zRp.of hb (fun s hs => ?_) ⟨fun i hi => ?_, fun i hi => ?_⟩ ⟨h.outs.keep ⟨rfl, rfl⟩ rfl (fun _ => rfl) (fun a ha => hod a (by omega)), h.emp.keep (fun a ha => hod a (by omega))⟩
  · by_cases e : s = r
    · subst e
      obtain ⟨⟨a1, b1⟩, ⟨a2, a3⟩, a4, a5, ⟨a6, a7⟩, a8, a9⟩ := h.one hl
      obtain ⟨p1, p2, p3, p4, p5, p6⟩ := hp
      obtain ⟨e1, e2, e3, e4⟩ := he
      refine ⟨⟨p1.trans a1, p3.trans b1⟩, ⟨fun h => p2.trans (a2 h), fun k hk => by rw [p5]; exact a3 k hk⟩, fun _ => ⟨?_, fun _ => ?_⟩, fun e => ?_, ⟨fun k h1 h2 => (p4 k h1).trans (a6 k h1 h2), fun j => by rw [p6]; exact a7 j⟩, fun i k hi hk9 e => ?_, fun j hj e => ?_⟩
      · obtain ⟨l1, l2, l3, l4, l5⟩ := (a4 hk).1
        refine ⟨p1.trans l1, (p4 130 (by decide)).trans l2, by rw [p5]; exact l3, ?_, fun i hi => (e4 i hi).trans (l5 i hi)⟩
        rcases l4 with ⟨q, -⟩ | ⟨q1, q2, q3, q4⟩
        · omega
        · exact Or.inr ⟨e1, by rw [e2]; exact q2, by rw [e2]; exact q3, by rw [e2]; exact q4⟩
      · rw [e3, e2]
        exact hW
      · subst e
        exact absurd hk (by decide)
      · exfalso
        unfold zlr at hr
        have := hb.1.1
        have := hb.1.2.2.2 i
        omega
      · exfalso
        unfold zlr at hr
        have := hb.1.2.2.1
        omega
    · refine (h.one hs).keep hb hs (fun _ _ => rfl) (fun _ => rfl) (hag _ (h.k0 hs) (h.ne hs hl e) (fun e3 => ?_)) (fun hk2 => hag _ ?_ (fun e4 => ?_) (fun e3 => ?_)) (fun _ => rfl) (fun _ _ _ => rfl) (fun _ => rfl) (fun i k hi hk _ => ⟨hi, hk, rfl, Nat.le_refl _⟩) (fun j hj _ => ⟨hj, rfl, Nat.le_refl _⟩)
      · exact hs.nrow hb hr ((h.mk hs).symm.trans ((congrArg (mG M) e3).trans hW.1))
      · have := (h.li hs hk2).row
        omega
      · have := (h.li hs hk2).row
        rw [e4, hkr] at this
        omega
      · have h4 : mK M (Λ (zrw s)) = 3 := by rw [e3]; exact h3
        have h5 := (h.rw hs hk2 h4).1
        rw [e3, hW.1] at h5
        exact e (zrw_inj hr (zlr_of hk2) h5).symm
  · obtain ⟨q1, q2⟩ := h.ints.1 i hi
    have e := hod (Λ (1300 + i)) (by omega)
    unfold zIok
    rw [e.1, e.2.2.2.1]
    exact ⟨q1, q2⟩
  · obtain ⟨q1, q2⟩ := h.ints.2 i hi
    have e := hod (Λ (1320 + i)) (by omega)
    unfold zIok
    rw [e.1, e.2.2.2.1]
    exact ⟨q1, q2⟩
def fSwapM (S : zSt) (i t o : Nat) : zSt := (sc S, fun s => sV S (zsw (1160 + 8 * i + t) (1160 + 8 * i + o) s), fun s => sW S (zsw (1160 + 8 * i + t) (1160 + 8 * i + o) s), sT S, sP S)
abbrev mSwapM (Λ : Nat → Nat) (M : zMem) (i t o : Nat) : zMem := (mK M, mN M, fun a => zsw (1160 + 8 * i + t) (1160 + 8 * i + o) (mG M a), vI M, vR M, aI M, u2 (u2 (aR M) (Λ (1130 + i)) t (some (Λ (1160 + 8 * i + o)))) (Λ (1130 + i)) o (some (Λ (1160 + 8 * i + t))), aL M, aD M)
theorem zRp.swapM (h : zRp Z Λ S M) (hi : i < sc S 1000) (ht : t < sc S (1010 + i)) (ho : o < sc S (1010 + i)) : zRp Z (fun s => Λ (zsw (1160 + 8 * i + t) (1160 + 8 * i + o) s)) (fSwapM S i t o) (mSwapM Λ M i t o) := by
  have hb := h.bnd
  have b6 := hb.2.1.1
  have c6 := hb.1.1
  have b8 := hb.2.2 i
  have hlt : zlv (sc S) (1160 + 8 * i + t) := lvK' hi ht
  have hlo : zlv (sc S) (1160 + 8 * i + o) := lvK' hi ho
  have hL := h.lT' hi
  have he3 : mK M (Λ (1130 + i)) = 3 := by
    rcases hL.row with h9 | h9
    · omega
    · exact h9
  have heg : mG M (Λ (1130 + i)) = 1130 + i := by
    have := (h.rw (lvT' hi) (zki_T' (by omega)))
    rw [zrw_T'] at this
    exact (this he3).1
  have kT : zki (1160 + 8 * i + t) = 29 := by rw [Nat.add_assoc]; exact zki_Km (by omega)
  have kO : zki (1160 + 8 * i + o) = 29 := by rw [Nat.add_assoc]; exact zki_Km (by omega)
  -- one of the two
  have two : ∀ x y : Nat, ((x = t ∧ y = o) ∨ (x = o ∧ y = t)) → zOne Z (fun s => Λ (zsw (1160 + 8 * i + t) (1160 + 8 * i + o) s)) (fSwapM S i t o) (mSwapM Λ M i t o) (1160 + 8 * i + x) := by
    intro x y hxy
    have hx : x < sc S (1010 + i) := by omega
    have hy : y < sc S (1010 + i) := by omega
    have ex : zsw (1160 + 8 * i + t) (1160 + 8 * i + o) (1160 + 8 * i + x) = 1160 + 8 * i + y := by
      rcases hxy with ⟨rfl, rfl⟩ | ⟨rfl, rfl⟩
      · exact zsw_a
      · exact zsw_b
    have ex2 : zsw t o x = y := by
      rcases hxy with ⟨rfl, rfl⟩ | ⟨rfl, rfl⟩
      · exact zsw_a
      · exact zsw_b
    have hly := lvK' hi hy
    have kX : zki (1160 + 8 * i + x) = 29 := by rw [Nat.add_assoc]; exact zki_Km (by omega)
    have ey : zsw (1160 + 8 * i + t) (1160 + 8 * i + o) (1160 + 8 * i + y) = 1160 + 8 * i + x := by rw [← ex, zsw_2]
    refine zOne_plain (q := Λ (1160 + 8 * i + y)) (congrArg Λ ex) ((h.kK' hi hy).trans kX.symm) ?_ (zle_hi (by omega)) (by omega) (by rw [kX]; decide) (by omega) (fun k h1 h2 => ?_) (fun j => ?_) (fun i2 k hi2 hk2 e => ?_) (fun j hj e => ?_)
    · show zsw _ _ (mG M (Λ (1160 + 8 * i + y))) = _
      rw [h.mk hly, ey]
    · show vI M (Λ (1160 + 8 * i + y)) k = sV S (zsw _ _ (1160 + 8 * i + x)) k
      rw [ex]
      exact h.iv hly h1 h2
    · show aI M (Λ (1160 + 8 * i + y)) j = sW S (zsw _ _ (1160 + 8 * i + x)) j
      rw [ex]
      exact h.av hly
    · have b9 := hb.1.2.2.2 i2
      have hi3 : i2 < sc S 0 := hi2
      have hk3 : k < sc S (10 + i2) := hk2
      omega
    · have := hb.1.2.2.1
      have : j < sc S 2 := hj
      omega
  refine zRp.of hb (fun s hs => ?_) ⟨fun j hj => ?_, fun j hj => ?_⟩ ?_
  · by_cases h1 : s = 1160 + 8 * i + t
    · subst h1
      exact two t o (Or.inl ⟨rfl, rfl⟩)
    by_cases h2 : s = 1160 + 8 * i + o
    · subst h2
      exact two o t (Or.inr ⟨rfl, rfl⟩)
    have es : zsw (1160 + 8 * i + t) (1160 + 8 * i + o) s = s := zsw_n h1 h2
    obtain ⟨⟨a1, b1⟩, ⟨a2, a3⟩, a4, a5, ⟨a6, a7⟩, a8, a9⟩ := h.one hs
    unfold zOne
    simp only [es]
    refine ⟨⟨a1, ?_⟩, ⟨a2, fun k hk => ?_⟩, fun hk => ?_, fun e j hj => ?_, ⟨fun k h3 h4 => ?_, fun j => ?_⟩, fun i2 k hi2 hk2 e => ?_, fun j hj e => ?_⟩
    · show zsw _ _ (mG M (Λ s)) = s
      rw [b1, es]
    · have := zpt_lt s k
      rw [zsw_n (by omega) (by omega)]
      exact a3 k hk
    · have hr := zlr_of hk
      have hro := zrw_out hr
      have er : zsw (1160 + 8 * i + t) (1160 + 8 * i + o) (zrw s) = zrw s := zsw_n (by omega) (by omega)
      rw [er]
      obtain ⟨⟨l1, l2, l3, l4, l5⟩, l6⟩ := a4 hk
      refine ⟨⟨l1, l2, l3, l4, fun j hj => ?_⟩, fun h3 => ⟨?_, (l6 h3).2⟩⟩
      · by_cases e : s = 1120 + i
        · subst e
          have ebs : zbs (1120 + i) = 1160 + 8 * i := zbs_T' (by omega)
          have erw : zrw (1120 + i) = 1130 + i := zrw_T'
          have l5 := l5 j hj
          rw [erw, ebs] at l5 ⊢
          show u2 (u2 (aR M) (Λ (1130 + i)) t (some (Λ (1160 + 8 * i + o)))) (Λ (1130 + i)) o (some (Λ (1160 + 8 * i + t))) (Λ (1130 + i)) j = some (Λ (zsw _ _ (1160 + 8 * i + j)))
          by_cases e1 : j = o
          · subst e1
            rw [u2_at, zsw_b]
          · rw [u2_nk e1]
            by_cases e2 : j = t
            · subst e2
              rw [u2_at, zsw_a]
            · rw [u2_nk e2, zsw_n (by omega) (by omega)]
              exact l5
        · have hne : Λ (zrw s) ≠ Λ (1130 + i) := by
            intro e9
            have h3 : mK M (Λ (zrw s)) = 3 := by rw [e9]; exact he3
            have h5 := (l6 h3).1
            rw [e9, heg] at h5
            exact e (zrw_inj hr (show zlr (1120 + i) by unfold zlr; omega) (by rw [zrw_T']; exact h5.symm))
          show u2 (u2 (aR M) (Λ (1130 + i)) t (some (Λ (1160 + 8 * i + o)))) (Λ (1130 + i)) o (some (Λ (1160 + 8 * i + t))) (Λ (zrw s)) j = some (Λ (zsw _ _ (zbs s + j)))
          rw [u2_ne hne, u2_ne hne]
          have hj0 : j < zct (sc S) s := hj
          have hn2 : zbs s + j ≠ 1160 + 8 * i + t ∧ zbs s + j ≠ 1160 + 8 * i + o := by
            rcases hr with rfl | rfl | rfl | hr | rfl | rfl | rfl | rfl | rfl | hr
            · have h9 : j < sc S 0 := hj0
              show 100 + j ≠ _ ∧ 100 + j ≠ _
              omega
            · have h9 : j < sc S 1 := hj0
              have := hb.1.2.1
              show 140 + j ≠ _ ∧ 140 + j ≠ _
              omega
            · have h9 : j < sc S 2 := hj0
              have := hb.1.2.2.1
              show 150 + j ≠ _ ∧ 150 + j ≠ _
              omega
            · obtain ⟨i3, rfl⟩ : ∃ i3, s = 120 + i3 := ⟨s - 120, by omega⟩
              rw [zct_T (by omega)] at hj0
              have := hb.1.2.2.2 i3
              rw [zbs_T (by omega)]
              omega
            · have h9 : j < sc S 1000 := hj0
              show 1100 + j ≠ _ ∧ 1100 + j ≠ _
              omega
            · have h9 : j < sc S 1001 := hj0
              have := hb.2.1.2.1
              show 1140 + j ≠ _ ∧ 1140 + j ≠ _
              omega
            · have h9 : j < sc S 1002 := hj0
              have := hb.2.1.2.2.1
              show 1150 + j ≠ _ ∧ 1150 + j ≠ _
              omega
            · show 1300 + j ≠ _ ∧ 1300 + j ≠ _
              omega
            · show 1320 + j ≠ _ ∧ 1320 + j ≠ _
              omega
            · obtain ⟨i3, rfl⟩ : ∃ i3, s = 1120 + i3 := ⟨s - 1120, by omega⟩
              rw [zct_T' (by omega)] at hj0
              have := hb.2.2 i3
              rw [zbs_T' (by omega)]
              omega
          rw [zsw_n hn2.1 hn2.2]
          exact l5 j hj
      · show zsw _ _ (mG M (Λ (zrw s))) = zrw s
        rw [(l6 h3).1, er]
    · have hne : Λ 1025 ≠ Λ (1130 + i) := by
        intro e9
        subst e
        rw [e9, he3] at a1
        exact absurd a1 (by decide)
      rw [zsw_n (by omega) (by omega)]
      show u2 (u2 (aR M) (Λ (1130 + i)) t (some (Λ (1160 + 8 * i + o)))) (Λ (1130 + i)) o (some (Λ (1160 + 8 * i + t))) (Λ 1025) j = some (Λ (zsw _ _ (1030 + j)))
      rw [zsw_n (by omega) (by omega), u2_ne hne, u2_ne hne]
      exact a5 e j hj
    · show vI M (Λ s) k = sV S (zsw _ _ s) k
      rw [es]
      exact a6 k h3 h4
    · show aI M (Λ s) j = sW S (zsw _ _ s) j
      rw [es]
      exact a7 j
    · have h9 := a8 i2 k hi2 hk2 e
      have hab := h.actb hi2 hk2
      have := hb.1.2.1
      show sT S i2 k < sc S 1 ∧ vR M (Λ (zsw _ _ (160 + 8 * i2 + k))) 416 = some (Λ (zsw _ _ (140 + sT S i2 k)))
      rw [← e, es, zsw_n (by omega) (by omega)]
      rw [← e] at h9
      exact h9
    · have h9 := a9 j hj e
      have := h.vpb hj
      show sP S j < sc S 0 ∧ vR M (Λ (zsw _ _ (150 + j))) 448 = some (Λ (zsw _ _ (100 + sP S j)))
      rw [← e, es, zsw_n (by omega) (by omega)]
      rw [← e] at h9
      exact h9
  · obtain ⟨q1, q2⟩ := h.ints.1 j hj
    unfold zIok
    show (mK M (Λ (zsw _ _ (1300 + j))) = 11 ∨ mK M (Λ (zsw _ _ (1300 + j))) = 8) ∧ vI M (Λ (zsw _ _ (1300 + j))) 32 = sV S (zsw _ _ (1300 + j)) 32
    rw [zsw_n (by omega) (by omega)]
    exact ⟨q1, q2⟩
  · obtain ⟨q1, q2⟩ := h.ints.2 j hj
    unfold zIok
    show (mK M (Λ (zsw _ _ (1320 + j))) = 11 ∨ mK M (Λ (zsw _ _ (1320 + j))) = 8) ∧ vI M (Λ (zsw _ _ (1320 + j))) 32 = sV S (zsw _ _ (1320 + j)) 32
    rw [zsw_n (by omega) (by omega)]
    exact ⟨q1, q2⟩
  · refine ⟨?_, h.emp⟩
    have h9 := h.outs
    refine ⟨?_, fun h8 => ?_⟩
    · have h9 := h9.1
      show sc S 5 = 1 → (mK M (Λ (zsw _ _ 40)) = 5 ∧ mN M (Λ (zsw _ _ 40)) = 1 ∧ aL M (Λ (zsw _ _ 40)) 0 = lN (sP S 1000)) ∧ mK M (Λ (zsw _ _ 41)) = 6 ∧ mN M (Λ (zsw _ _ 41)) = 1 ∧ aD M (Λ (zsw _ _ 41)) 0 = UInt64.ofNat (sP S 1001)
      rw [zsw_n (by omega) (by omega), zsw_n (by omega) (by omega)]
      exact h9
    · obtain ⟨c1, c2, c3, c4⟩ := h9.2 h8
      refine ⟨c1, c2, ?_, c4⟩
      show zsw _ _ (mG M (sP S 1002)) = 42
      rw [c3]
      exact zsw_n (by omega) (by omega)
end ZSWAPM
