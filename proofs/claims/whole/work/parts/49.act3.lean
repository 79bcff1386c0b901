/-! AN ACT ADDED, the first one -/
section ZACT3
variable {Z : zPar} {Λ : Nat → Nat} {S : zSt} {M : zMem} {q q2 : Nat} {mi lo sk li fi : Int32}
theorem zRp_actGrow (h : zRp Z Λ S M) (h3 : sc S 3 = 1) (h0 : sc S 1 = 0) (hq : mK M q = 0) (hk7 : mK M (Λ 18) = 7) (hq2 : mK (mActN M q (140 + sc S 1) (sc S 1) mi lo sk li fi) q2 = 0) : zRp Z (u1 (u1 Λ (140 + sc S 1) q) 18 q2) (fAddAct S mi lo sk li fi) (zAddG (mActN M q (140 + sc S 1) (sc S 1) mi lo sk li fi) (Λ 17) q2 q 18) := by
  have hn : sc S 1 < 8 := by omega
  have hG := zRp_actGrown (mi := mi) (lo := lo) (sk := sk) (li := li) (fi := fi) h hn hq
  have e17 : u1 Λ (140 + sc S 1) q 17 = Λ 17 := u1_ne (by omega)
  have e18 : u1 Λ (140 + sc S 1) q 18 = Λ 18 := u1_ne (by omega)
  have hag := mActN_ag (g := 140 + sc S 1) (n := sc S 1) (mi := mi) (lo := lo) (sk := sk) (li := li) (fi := fi) hq (Λ 18) (by omega)
  have hR := zRp_addGrow (r := 17) (v := q) (q := q2) (V' := u1 (sV S) (140 + sc S 1) (fActN (sc S 1) mi lo sk li fi)) (W' := u1 (sW S) (140 + sc S 1) (fun _ => 0)) (T' := sT S) (P' := sP S) hG (lvC h3 (by omega)) rfl (h.bnd.act hn) (u1_at (f := Λ)).symm
    (fun s hs hns => by
      have e := zlvA_new hs hns
      subst e
      exact zOne_act hn h.bnd (h.bnd.act hn) (fun k => congrFun (u1_at (f := sV S)) k) (fun j => congrFun (u1_at (f := sW S)) j))
    (fun s hs k _ _ => congrFun (u1_ne (f := sV S) (hs.act_lt h.bnd hn)) k) (fun s hs j => congrFun (u1_ne (f := sW S) (hs.act_lt h.bnd hn)) j) (fun _ _ _ _ => rfl) (fun _ _ => rfl) (fun _ => rfl)
    ⟨fun i hi => ⟨(hG.ints.1 i hi).1, (hG.ints.1 i hi).2.trans (congrFun (u1_ne (f := sV S) (by omega)) 32).symm⟩, fun i hi => ⟨(hG.ints.2 i hi).1, (hG.ints.2 i hi).2.trans (congrFun (u1_ne (f := sV S) (by omega)) 32).symm⟩⟩
    (by show mK _ (u1 Λ (140 + sc S 1) q 18) = 7; rw [e18, hag.1]; exact hk7) h0 hq2 (by rw [show mK (mActN M q (140 + sc S 1) (sc S 1) mi lo sk li fi) q = 15 from u1_at]; decide)
  have hR2 : zRp Z (u1 (u1 Λ (140 + sc S 1) q) 18 q2) (fAddAct S mi lo sk li fi) (zAddG (mActN M q (140 + sc S 1) (sc S 1) mi lo sk li fi) (u1 Λ (140 + sc S 1) q 17) q2 q 18) := hR
  rw [e17] at hR2
  exact hR2
end ZACT3
