/-! AN ACT ADDED -/
section ZACT2
variable {Z : zPar} {Λ : Nat → Nat} {S : zSt} {M : zMem} {q r s g : Nat} {c : Nat → Nat} {mi lo sk li fi : Int32}
theorem zlv.act_lt (hb : zBnd c) (h : zlv c s) (hc : c 1 < 8) : s ≠ 140 + c 1 := by
  have b1 := hb.1.1
  have b3 := hb.1.2.2.1
  rcases h with h | h
  · rcases h with ⟨-, h⟩ | ⟨i, hi, h⟩ | ⟨i, hi, h⟩ | ⟨i, hi, h⟩ | ⟨i, k, hi, hk, h⟩ <;> omega
  · rcases h with ⟨-, h⟩ | ⟨i, hi, h⟩ | ⟨i, hi, h⟩ | ⟨i, hi, h⟩ | ⟨i, k, hi, hk, h⟩ <;> omega
theorem zrw_out (hr : zlr r) : zrw r < 100 ∨ (130 ≤ zrw r ∧ zrw r < 140) ∨ (1000 ≤ zrw r ∧ zrw r < 1140) := by
  unfold zlr at hr
  by_cases h : r < 100 ∨ (1000 ≤ r ∧ r < 1100)
  · rw [show zrw r = r + 1 from if_pos h]
    omega
  · rw [show zrw r = r + 10 from if_neg h]
    omega
theorem zRp_actGrown (h : zRp Z Λ S M) (hn : sc S 1 < 8) (hq : mK M q = 0) : zRp Z (u1 Λ (140 + sc S 1) q) S (mActN M q (140 + sc S 1) (sc S 1) mi lo sk li fi) := by
  refine h.grow (fun s hs => u1_ne ?_) ⟨u1_ne (by omega), u1_ne (by omega)⟩ (fun r hr hk => u1_ne ?_) (mActN_ag hq)
  · rcases hs with hs | ⟨i, hi, rfl⟩ | ⟨i, hi, rfl⟩
    · exact hs.act_lt h.bnd hn
    · omega
    · omega
  · have := zrw_out (zlr_of hk)
    omega
/-- the state with one act more -/
def fAddAct (S : zSt) (mi lo sk li fi : Int32) : zSt := (cset (sc S) 1 (sc S 1 + 1), u1 (sV S) (140 + sc S 1) (fActN (sc S 1) mi lo sk li fi), u1 (sW S) (140 + sc S 1) (fun _ => 0), sT S, sP S)
theorem zBnd.act (hb : zBnd c) (hn : c 1 < 8) : zBnd (cset c 1 (c 1 + 1)) := by
  obtain ⟨⟨h1, h2, h3, h4⟩, ⟨h5, h6, h7, h8, h9⟩, h10⟩ := hb
  refine ⟨⟨h1, (by show c 1 + 1 ≤ 8; omega), h3, fun i => ?_⟩, ⟨h5, h6, h7, h8, h9⟩, fun i => ?_⟩
  · rw [cset_ne (by omega)]
    exact h4 i
  · rw [cset_ne (by omega)]
    exact h10 i
theorem zRp_actRoom (h : zRp Z Λ S M) (h3 : sc S 3 = 1) (hn : sc S 1 < 8) (hq : mK M q = 0) (hk3 : mK M (Λ 18) = 3) (hro : sc S 1 < mN M (Λ 18)) : zRp Z (u1 Λ (140 + sc S 1) q) (fAddAct S mi lo sk li fi) (zAdd (mActN M q (140 + sc S 1) (sc S 1) mi lo sk li fi) (Λ 17) (Λ 18) (sc S 1) q) := by
  have hG := zRp_actGrown (mi := mi) (lo := lo) (sk := sk) (li := li) (fi := fi) h hn hq
  have e17 : u1 Λ (140 + sc S 1) q 17 = Λ 17 := u1_ne (by omega)
  have e18 : u1 Λ (140 + sc S 1) q 18 = Λ 18 := u1_ne (by omega)
  have hag := mActN_ag (g := 140 + sc S 1) (n := sc S 1) (mi := mi) (lo := lo) (sk := sk) (li := li) (fi := fi) hq (Λ 18) (by omega)
  have hR := zRp_addRoom (r := 17) (v := q) (V' := u1 (sV S) (140 + sc S 1) (fActN (sc S 1) mi lo sk li fi)) (W' := u1 (sW S) (140 + sc S 1) (fun _ => 0)) (T' := sT S) (P' := sP S) hG (lvC h3 (by omega)) rfl (h.bnd.act hn) (u1_at (f := Λ)).symm
    (fun s hs hns => by
      have e := zlvA_new hs hns
      subst e
      exact zOne_act hn h.bnd (h.bnd.act hn) (fun k => congrFun (u1_at (f := sV S)) k) (fun j => congrFun (u1_at (f := sW S)) j))
    (fun s hs k _ _ => congrFun (u1_ne (f := sV S) (hs.act_lt h.bnd hn)) k) (fun s hs j => congrFun (u1_ne (f := sW S) (hs.act_lt h.bnd hn)) j) (fun _ _ _ _ => rfl) (fun _ _ => rfl) (fun _ => rfl)
    ⟨fun i hi => ⟨(hG.ints.1 i hi).1, (hG.ints.1 i hi).2.trans (congrFun (u1_ne (f := sV S) (by omega)) 32).symm⟩, fun i hi => ⟨(hG.ints.2 i hi).1, (hG.ints.2 i hi).2.trans (congrFun (u1_ne (f := sV S) (by omega)) 32).symm⟩⟩
    (by show mK _ (u1 Λ (140 + sc S 1) q 18) = 3; rw [e18, hag.1]; exact hk3) (by show sc S 1 < mN _ (u1 Λ (140 + sc S 1) q 18); rw [e18, hag.2.1]; exact hro)
  have hR2 : zRp Z (u1 Λ (140 + sc S 1) q) (fAddAct S mi lo sk li fi) (zAdd (mActN M q (140 + sc S 1) (sc S 1) mi lo sk li fi) (u1 Λ (140 + sc S 1) q 17) (u1 Λ (140 + sc S 1) q 18) (sc S 1) q) := hR
  rw [e17, e18] at hR2
  exact hR2
end ZACT2
