/-! OPERATIONS 5: orders, an order by number, partners -/
section ZOP5
variable {Z : zPar} {l : Launch} {x m o od : Nat} {S T : zSt}
theorem full_of (n : Nat) : ∃ F, F + 1 = 2 ^ n := ⟨2 ^ n - 1, by have := Nat.two_pow_pos n; omega⟩
theorem op_orders (hS : rRel S) : zOp0 Z l x m o od mth_X11_orders mth_X16_orders S vInt := by
  have h3 := hS.h3
  have h4 := hS.h4
  obtain ⟨F, hF⟩ := full_of (sc S 1)
  have hF' : F + 1 = 2 ^ sc S 1001 := by rw [hS.c1]; exact hF
  have e : fWay S (sc S 1) F F 10 0 = fCn S F F 0 := (ways_eq hS.cu hS.c1 hS.b1 hF F (Nat.le_refl _)).1 0 (by omega) (Nat.zero_le _)
  have e2 : fCn (wW S (fWay S (sc S 1) F F)) F F 0 = fCn S F F 0 := congrFun (fCn_c (S := S) (T := wW S (fWay S (sc S 1) F F)) (fun r k hr => fWay_9 F r k hr) rfl F) 0
  have hS1 : rRel (wW S (fWay S (sc S 1) F F)) := hS.ways rfl rfl (fun j hj => rfl) (fun r k hk => rfl) (fun r k hr => fWay_9 F r k hr)
  have k := fun Λ M (hR : zRp Z Λ (wW S (fWay S (sc S 1) F F)) M) => k_orders (l := l) hR h4 hF'
  simp only [e2, ← e] at k
  exact ⟨.int (fWay S (sc S 1) F F 10 0), wW S (fWay S (sc S 1) F F), _, ⟨_, rfl⟩, cl_g (by omega) (by omega) (by omega) (fun Λ M hR => f_orders hR h3 hF), md_g (by omega) (by omega) (by omega) k, hS1.mT 0⟩
theorem oSel_c {row : Nat → Int32} (hW : ∀ r k, r ≠ 10 → sW T r k = sW S r k) (hc : sc T 1001 = sc S 1001) {p : Nat} {y : Int32} : oSel T row p y = oSel S row p y ∧ ∀ k, oLeft T row p y k = oLeft S row p y k := by
  have h2 : ∀ k, oLeft T row p y k = oLeft S row p y k := by
    intro k
    induction k with
    | zero => rfl
    | succ k ih =>
      rw [oLeft_s, oLeft_s, ih, fFrm_c hW, hc]
  refine ⟨?_, h2⟩
  unfold oSel
  rw [hc]
  congr 1
  funext a
  unfold oCnd
  rw [h2, fFrm_c hW, hc]
theorem oOrd_c {row : Nat → Int32} (hW : ∀ r k, r ≠ 10 → sW T r k = sW S r k) (hc : sc T 1001 = sc S 1001) {y : Int32} (i : Nat) : oOrd T row y i = oOrd S row y i := by
  induction i with
  | zero => rw [oOrd_0, oOrd_0]
  | succ i ih =>
    rw [oOrd_s, oOrd_s, ih]
    unfold oStp
    rw [(oSel_c hW hc).1, (oSel_c hW hc).2]
theorem op_orderAt (hS : rRel S) (p q : Int32) : zOp Z l x m o od mth_L_orderAt mth_X16_orderAt [.ref x, .int p, .int q, .ref o] [.ref m, .int p, .int q] cvI S := by
  have c1 := hS.c1
  have h3 := hS.h3
  have h4 := hS.h4
  have h5 := hS.h5
  have b1 := hS.b1
  obtain ⟨F, hF⟩ := full_of (sc S 1)
  have hF' : F + 1 = 2 ^ sc S 1001 := by rw [c1]; exact hF
  have hw9 : ∀ r k, r ≠ 10 → fWay S (sc S 1) F F r k = sW S r k := fun r k hr => fWay_9 F r k hr
  have e : fWay S (sc S 1) F F 10 0 = fCn S F F 0 := (ways_eq hS.cu c1 b1 hF F (Nat.le_refl _)).1 0 (by omega) (Nat.zero_le _)
  obtain ⟨hN, hNb⟩ := fCn_lt hS.cu c1 b1 hF (Nat.zero_le F)
  have hS1 : rRel (wW S (fWay S (sc S 1) F F)) := hS.ways rfl rfl (fun j hj => rfl) (fun r k hk => rfl) (fun r k hr => hw9 r k hr)
  have e1 : ∀ j, fCn (wW S (fWay S (sc S 1) F F)) F j = fCn S F j := fun j => fCn_c (S := S) (T := wW S (fWay S (sc S 1) F F)) (fun r k hr => hw9 r k hr) rfl j
  have hin := ord_in (p := p) hNb
  by_cases hp0 : p < 0
  · exact op_ex hS (wr_tw wr_L_orderAt h3 (by omega) (by omega) (by omega) (fun Λ M hR => f_orderAt_0 hR h3 hp0) rfl)
      (md_g (by omega) (by omega) (by omega) (fun Λ M hR => k_orderAt_1 hR h4 hF' (by
        rw [hN]
        rcases hb : fIn p 0 (nI (rNm S F 0) - 1) with _ | _
        · rfl
        · exact absurd hp0 (hin.mp hb).1))) (by decide)
  by_cases hpc : ¬ p < fWay S (sc S 1) F F 10 0
  · refine ⟨1, 0, _, _, wr_gt wr_L_orderAt h3 (by omega) (by omega) (by omega) (fun Λ M hR => f_orderAt_1 hR h3 hF hp0 hpc) rfl, md_g (by omega) (by omega) (by omega) (fun Λ M hR => k_orderAt_1 hR h4 hF' (by
        rw [e1, hN]
        rcases hb : fIn p 0 (nI (rNm S F 0) - 1) with _ | _
        · rfl
        · exact absurd (by rw [e, hN]; exact (hin.mp hb).2) hpc)), rfl, fun g => absurd g (by decide), hS1.mT 1⟩
  have hpc : p < fWay S (sc S 1) F F 10 0 := Decidable.byContradiction hpc
  have hp8 : fIn p 0 (fCn S F F 0 - 1) = true := by
    rw [hN]
    exact hin.mpr ⟨hp0, by rw [← hN, ← e]; exact hpc⟩
  by_cases hq0 : q < 0
  · refine ⟨1, 0, _, _, wr_gt wr_L_orderAt h3 (by omega) (by omega) (by omega) (fun Λ M hR => f_orderAt_2 hR h3 hF hp0 hpc hq0) rfl, md_g (by omega) (by omega) (by omega) (fun Λ M hR => k_orderAt_2 hR h4 hF' (by rw [e1]; exact hp8) (fun g => g.1 hq0)), rfl, fun g => absurd g (by decide), hS1.mT 1⟩
  by_cases hqn : ¬ q < nI (sc S 1)
  · refine ⟨1, 0, _, _, wr_gt wr_L_orderAt h3 (by omega) (by omega) (by omega) (fun Λ M hR => f_orderAt_3 hR h3 hF hp0 hpc hq0 hqn) rfl, md_g (by omega) (by omega) (by omega) (fun Λ M hR => k_orderAt_2 hR h4 hF' (by rw [e1]; exact hp8) (fun g => g.2 (by rw [show sc (wW S (fWay S (sc S 1) F F)) 1001 = sc S 1 from c1]; exact Int32.not_lt.mp hqn))), rfl, fun g => absurd g (by decide), hS1.mT 1⟩
  have hqn : q < nI (sc S 1) := Decidable.byContradiction hqn
  obtain ⟨j, hj, rfl⟩ := ix_of (p := q) (n := sc S 1) (by omega) ⟨hq0, fun h => Int32.lt_irrefl (Int32.lt_of_lt_of_le hqn h)⟩
  obtain ⟨on, hon, rfl⟩ := nI_of hp0
  have hon2 : on < rNm S F 0 := by
    rw [e, hN] at hpc
    exact (nI_ltI hon (by omega)).mp hpc
  -- the class fills its ways twice
  have hcu1 : rCu (sc S 1) (sW (wW S (fWay S (sc S 1) F F))) := hS1.cu
  have hW2 : ∀ r k, r ≠ 10 → fWay (wW S (fWay S (sc S 1) F F)) (sc S 1) F F r k = sW S r k := fun r k hr => (fWay_9 (S := wW S (fWay S (sc S 1) F F)) F r k hr).trans (hw9 r k hr)
  have hT : ∀ q, q ≤ F → fWay (wW S (fWay S (sc S 1) F F)) (sc S 1) F F 10 q = fCn S F F q := fun q hq => by
    rw [(ways_eq (S := wW S (fWay S (sc S 1) F F)) hcu1 c1 b1 hF F (Nat.le_refl _)).1 q (by omega) hq, e1]
  have hO := fun i hi => (ord_eq (T := wW (wW S (fWay S (sc S 1) F F)) (fWay (wW S (fWay S (sc S 1) F F)) (sc S 1) F F)) hS.cu c1 b1 hF (fun k => hW2 9 k (by decide)) hT hon2 i hi).1
  have hsel := fun i hi => ord_sel (T := wW (wW S (fWay S (sc S 1) F F)) (fWay (wW S (fWay S (sc S 1) F F)) (sc S 1) F F)) hS.cu c1 b1 hF (fun k => hW2 9 k (by decide)) hT (i := i) hon2 hi
  have hS2 : rRel (wW (wW S (fWay S (sc S 1) F F)) (fWay (wW S (fWay S (sc S 1) F F)) (sc S 1) F F)) := hS.ways rfl rfl (fun j hj => rfl) (fun r k hk => rfl) (fun r k hr => hW2 r k hr)
  generalize hgS : wW (wW S (fWay S (sc S 1) F F)) (fWay (wW S (fWay S (sc S 1) F F)) (sc S 1) F F) = S2 at *
  have hsc : sc S2 = sc S := by rw [← hgS]
  have h4b : sc S2 4 = 1 := by rw [hsc]; exact h4
  have hsW : ∀ r k, r ≠ 10 → sW S2 r k = sW S r k := by
    rw [← hgS]
    exact hW2
  have eS2 : ∀ n, fCn (wP S2 1000 n) F F = fCn S F F := fun n => fCn_c (S := S) (T := wP S2 1000 n) hsW (by rw [hsc]) F
  have eO : ∀ n row y i, oOrd (wP S2 1000 n) row y i = oOrd S row y i := fun n row y i => oOrd_c (S := S) (T := wP S2 1000 n) hsW (by rw [hsc]) i
  have eSel : ∀ n row p y, oSel (wP S2 1000 n) row p y = oSel S row p y := fun n row p y => (oSel_c (S := S) (T := wP S2 1000 n) hsW (by rw [hsc])).1
  refine ⟨0, nI (oOrd S (fCn S F F) (nI on) (j + 1)).2.2, wP S2 1000 (oN (cvI (nI (fOrd S2 (sc S 1) (nI on) (j + 1)).2.2))), mT (wP S2 1000 (oN (cvI (nI (fOrd S2 (sc S 1) (nI on) (j + 1)).2.2)))) 0, wr_okG (d := 4) (mc := 0) (ms := 0) wr_L_orderAt h3 (by rw [hsc]; exact h5) (by omega) (by omega) (by omega) (fun Λ M hR => ?_), md_g (d := 3) (mc := 1) (ms := 256) (by omega) (by omega) (by omega) (fun Λ M hR => ?_), rfl, fun _ => ?_, ?_⟩
  · have := f_orderAt (l := l) hR h3 hF hp0 hpc hj
    rw [hgS] at this
    exact this
  · have := k_orderAt (S := wP S2 1000 (oN (cvI (nI (fOrd S2 (sc S 1) (nI on) (j + 1)).2.2)))) (l := l) (pl := j) (p := nI on) (F := F) hR (by rw [hsc]; exact h4) (by rw [hsc]; exact hF') (by rw [eS2]; exact hp8) (by rw [hsc, c1]; exact hj) (fun k hk => by rw [eS2, eO, eSel, hsc, c1]; exact hsel k (by omega))
    rw [eS2, eO] at this
    exact this
  · show lN (u1 (sP S2) 1000 (oN (cvI (nI (fOrd S2 (sc S 1) (nI on) (j + 1)).2.2))) 1000) = _
    rw [u1_at, lN_oN, hO (j + 1) (by omega)]
  · exact (hS2.wP (by omega) (by omega)).mT 0
end ZOP5
