/-! THE REFERENCE'S CONSTRUCTOR 2 -/
theorem w_aob : zwd (.arrayOver (.array .boolean)) := ⟨tw_6 _ (List.mem_of_getElem? (i := 62) (by decide +kernel)), by decide +kernel⟩
abbrev pSQ (p : zPc) (r : Nat) (f : Nat → Option Nat) : zPc := (p.1, p.2.1, p.2.2.1, p.2.2.2.1, p.2.2.2.2.1, p.2.2.2.2.2.1, u1 p.2.2.2.2.2.2 r f)
abbrev pRows (p : zPc) (j : Nat) : zPc := zit (fun i p => pNew p (1030 + i) 2 8) j p
abbrev pMna (p : zPc) (f : Nat → Option Nat) : zPc := pRows (pSQ (pNew p 1025 4 8) 1025 f) 8
abbrev lamR (Λ r : Nat → Nat) (j : Nat) : Nat → Nat := zit (fun i Λ => u1 Λ (1030 + i) (r i)) j Λ
abbrev lamM (Λ : Nat → Nat) (q : Nat) (r : Nat → Nat) : Nat → Nat := lamR (u1 Λ 1025 q) r 8
section ZNEWM1
variable {Z : zPar} {l : Launch} {M0 M : zMem} {Λ r : Nat → Nat} {p : zPc} {q s : Nat} {f : Nat → Option Nat}
theorem zPic.sQ {t : Nat} (h : zPic M0 Λ p M) (hr : p.1 t = true) : zPic M0 Λ (pSQ p t f) (sARr M (Λ t) f) := by
  refine ⟨fun a ha => ?_, fun s hs => ?_⟩
  · obtain ⟨h1, h2, h3, h4, h5, h6, h7, h8, h9⟩ := h.1 a ha
    exact ⟨h1, h2, h3, h4, h5, h6, (u1_ne (h.old hr ha)).trans h7, h8, h9⟩
  · obtain ⟨h1, h6, h7, h8, h9⟩ := h.2 s hs
    refine ⟨h1, h6, h7, h8, ?_⟩
    by_cases e : s = t
    · subst e
      exact u1_at.trans u1_at.symm
    · exact (u1_ne (h.ne hr hs e)).trans (h9.trans (u1_ne e).symm)
theorem pRows_ne (h : s < 1030 ∨ 1038 ≤ s) : ∀ j, j ≤ 8 → (pRows p j).1 s = p.1 s ∧ (pRows p j).2.1 s = p.2.1 s
  | 0, _ => ⟨rfl, rfl⟩
  | j + 1, hj => by
    have ih := pRows_ne h j (by omega)
    exact ⟨(u1_ne (by omega)).trans ih.1, (u1_ne (by omega)).trans ih.2⟩
theorem qM {b : Bool} (h : s < 1025 ∨ 1038 ≤ s) (h2 : p.1 s = b) : (pMna p f).1 s = b := (pRows_ne (by omega) 8 (Nat.le_refl _)).1.trans ((u1_ne (by omega)).trans h2)
theorem kM {b : Nat} (h : s < 1025 ∨ 1038 ≤ s) (h2 : p.2.1 s = b) : (pMna p f).2.1 s = b := (pRows_ne (by omega) 8 (Nat.le_refl _)).2.trans ((u1_ne (by omega)).trans h2)
theorem lamR_ne (h : s < 1030 ∨ 1038 ≤ s) : ∀ j, j ≤ 8 → lamR Λ r j s = Λ s
  | 0, _ => rfl
  | j + 1, hj => (u1_ne (by omega)).trans (lamR_ne h j (by omega))
theorem lM {a : Nat} (h : s < 1025 ∨ 1038 ≤ s) (h2 : Λ s = a) : lamM Λ q r s = a := (lamR_ne (by omega) 8 (Nat.le_refl _)).trans ((u1_ne (by omega)).trans h2)
theorem zPic.mna (h : zPic M0 Λ p M) (hq : mK M q = 0) (hr : ∀ i, i < 8 → mK M (r i) = 0 ∧ r i ≠ q) (hri : ∀ i j, i < 8 → j < 8 → r i = r j → i = j) (h1 : p.1 1025 = false) (h2 : ∀ i, i < 8 → p.1 (1030 + i) = false) : zPic M0 (lamM Λ q r) (pMna p f) (zRows (sARr (zNew M q 4 8 1025) q f) r (fun i => 1030 + i) 8) := by
  have g1 : zPic M0 (u1 Λ 1025 q) (pNew p 1025 4 8) (zNew M q 4 8 1025) := h.new hq h1 (by decide)
  have g2 : zPic M0 (u1 Λ 1025 q) (pSQ (pNew p 1025 4 8) 1025 f) (sARr (zNew M q 4 8 1025) (u1 Λ 1025 q 1025) f) := g1.sQ qNa
  rw [show u1 Λ 1025 q 1025 = q from u1_at] at g2
  have key : ∀ j, j ≤ 8 → zPic M0 (lamR (u1 Λ 1025 q) r j) (pRows (pSQ (pNew p 1025 4 8) 1025 f) j) (zRows (sARr (zNew M q 4 8 1025) q f) r (fun i => 1030 + i) j) ∧ (∀ i, j ≤ i → i < 8 → (pRows (pSQ (pNew p 1025 4 8) 1025 f) j).1 (1030 + i) = false) ∧ ∀ i, j ≤ i → i < 8 → mK (zRows (sARr (zNew M q 4 8 1025) q f) r (fun i => 1030 + i) j) (r i) = 0 := by
    intro j
    induction j with
    | zero =>
      intro _
      exact ⟨g2, fun i _ hi => (u1_ne (by omega)).trans (h2 i hi), fun i _ hi => (u1_ne (hr i hi).2).trans (hr i hi).1⟩
    | succ j ih =>
      intro hj
      obtain ⟨k1, k2, k3⟩ := ih (by omega)
      refine ⟨k1.new (k3 j (Nat.le_refl _) (by omega)) (k2 j (Nat.le_refl _) (by omega)) (by decide), fun i h1 hi => (u1_ne (by omega)).trans (k2 i (by omega) hi), fun i h1 hi => ?_⟩
      exact (u1_ne (fun e => by have := hri i j hi (by omega) e; omega)).trans (k3 i (by omega) hi)
  exact (key 8 (Nat.le_refl _)).1
theorem h_X16_init (hP : zPic M0 (u1 Λ 1001 q) (pNew p0 1001 31 0) M) : zG Z l 3 mth_X16_init [.ref q] M 14 87 none (fun M' => ∃ q0 q1 q2 q3 q4 q5 r, zPic M0 (lamM (u1 (u1 (u1 (u1 (u1 (u1 Λ 1001 q) 1015 q0) 1017 q1) 1019 q2) 1021 q3) 1023 q4) q5 r) (pSI (pSI (pSI (pSI (pSR (pMna (pSR (pSR (pSI (pNew (pSR (pSR (pSI (pNew (pSR (pSR (pSI (pNew (pSR (pSR (pSI (pNew (pSR (pSR (pSI (pNew (pNew p0 1001 31 0) 1015 14 0) 1015 128 0) 1015 129 (some (zPe Z))) 1001 673 (some q0)) 1017 14 0) 1017 128 0) 1017 129 (some (zPe Z))) 1001 674 (some q1)) 1019 14 0) 1019 128 0) 1019 129 (some (zPe Z))) 1001 675 (some q2)) 1021 14 0) 1021 128 0) 1021 129 (some (zPe Z))) 1001 676 (some q3)) 1023 14 0) 1023 128 0) 1023 129 (some (zPe Z))) 1001 677 (some q4)) (fun i => if i < 8 then some (r i) else none)) 1001 678 (some q5)) 1001 681 1) 1001 683 (-1)) 1001 685 99) 1001 672 0) M') := by
  intro Q hQ
  show zX Z l 3 mth_X16_init 0 [(0, .ref q)] [] M 14 87 Q
  refine zs_aload_n (n := 1) dX16_init_0 rfl rfl ?_
  refine zs_objInit (n := 4) dX16_init_1 ml_X16_1 w_oi w_oc (by simp) rfl ?_
  refine zs_aload_n (n := 5) dX16_init_4 rfl rfl ?_
  refine zh_new (N := 3) (nc1 := 13) (ns1 := 84) (n := 8) 1015 dX16_init_5 nc_X16_7 hP (qNn (by omega) rfl) (by decide) rfl (by omega) (by omega) ?_
  intro q0 M hP
  refine zs_dup (n := 9) dX16_init_8 rfl rfl ?_
  refine zh_linit (r := 1015) (n := 12) lNa dX16_init_9 ml_X16_9 hP qNa (kNa) (by simp) (by omega) rfl ?_
  intro M hP
  refine zh_putr (r := 1001) (n := 15) (lNn (by omega) lNa) dX16_init_12 pf_X16_init_10 hP (qRn (qIn (qNn (by omega) qNa))) ((kRn (kIn (kNn (by omega) kNa)))) ⟨rfl, rfl⟩ rfl ?_
  intro M hP
  refine zs_aload_n (n := 16) dX16_init_15 rfl rfl ?_
  refine zh_new (N := 3) (nc1 := 12) (ns1 := 81) (n := 19) 1017 dX16_init_16 nc_X16_7 hP (qRn (qRn (qIn (qNn (by omega) (qNn (by omega) rfl))))) (by decide) rfl (by omega) (by omega) ?_
  intro q1 M hP
  refine zs_dup (n := 20) dX16_init_19 rfl rfl ?_
  refine zh_linit (r := 1017) (n := 23) lNa dX16_init_20 ml_X16_9 hP qNa (kNa) (by simp) (by omega) rfl ?_
  intro M hP
  refine zh_putr (r := 1001) (n := 26) (lNn (by omega) (lNn (by omega) lNa)) dX16_init_23 pf_X16_init_16 hP (qRn (qIn (qNn (by omega) (qRn (qRn (qIn (qNn (by omega) qNa))))))) ((kRn (kIn (kNn (by omega) (kRn (kRn (kIn (kNn (by omega) kNa)))))))) ⟨rfl, rfl⟩ rfl ?_
  intro M hP
  refine zs_aload_n (n := 27) dX16_init_26 rfl rfl ?_
  refine zh_new (N := 3) (nc1 := 11) (ns1 := 78) (n := 30) 1019 dX16_init_27 nc_X16_7 hP (qRn (qRn (qIn (qNn (by omega) (qRn (qRn (qIn (qNn (by omega) (qNn (by omega) rfl))))))))) (by decide) rfl (by omega) (by omega) ?_
  intro q2 M hP
  refine zs_dup (n := 31) dX16_init_30 rfl rfl ?_
  refine zh_linit (r := 1019) (n := 34) lNa dX16_init_31 ml_X16_9 hP qNa (kNa) (by simp) (by omega) rfl ?_
  intro M hP
  refine zh_putr (r := 1001) (n := 37) (lNn (by omega) (lNn (by omega) (lNn (by omega) lNa))) dX16_init_34 pf_X16_init_19 hP (qRn (qIn (qNn (by omega) (qRn (qRn (qIn (qNn (by omega) (qRn (qRn (qIn (qNn (by omega) qNa))))))))))) ((kRn (kIn (kNn (by omega) (kRn (kRn (kIn (kNn (by omega) (kRn (kRn (kIn (kNn (by omega) kNa)))))))))))) ⟨rfl, rfl⟩ rfl ?_
  intro M hP
  refine zs_aload_n (n := 38) dX16_init_37 rfl rfl ?_
  refine zh_new (N := 3) (nc1 := 10) (ns1 := 75) (n := 41) 1021 dX16_init_38 nc_X16_7 hP (qRn (qRn (qIn (qNn (by omega) (qRn (qRn (qIn (qNn (by omega) (qRn (qRn (qIn (qNn (by omega) (qNn (by omega) rfl))))))))))))) (by decide) rfl (by omega) (by omega) ?_
  intro q3 M hP
  refine zs_dup (n := 42) dX16_init_41 rfl rfl ?_
  refine zh_linit (r := 1021) (n := 45) lNa dX16_init_42 ml_X16_9 hP qNa (kNa) (by simp) (by omega) rfl ?_
  intro M hP
  refine zh_putr (r := 1001) (n := 48) (lNn (by omega) (lNn (by omega) (lNn (by omega) (lNn (by omega) lNa)))) dX16_init_45 pf_X16_init_22 hP (qRn (qIn (qNn (by omega) (qRn (qRn (qIn (qNn (by omega) (qRn (qRn (qIn (qNn (by omega) (qRn (qRn (qIn (qNn (by omega) qNa))))))))))))))) ((kRn (kIn (kNn (by omega) (kRn (kRn (kIn (kNn (by omega) (kRn (kRn (kIn (kNn (by omega) (kRn (kRn (kIn (kNn (by omega) kNa)))))))))))))))) ⟨rfl, rfl⟩ rfl ?_
  intro M hP
  refine zs_aload_n (n := 49) dX16_init_48 rfl rfl ?_
  refine zh_new (N := 3) (nc1 := 9) (ns1 := 72) (n := 52) 1023 dX16_init_49 nc_X16_7 hP (qRn (qRn (qIn (qNn (by omega) (qRn (qRn (qIn (qNn (by omega) (qRn (qRn (qIn (qNn (by omega) (qRn (qRn (qIn (qNn (by omega) (qNn (by omega) rfl))))))))))))))))) (by decide) rfl (by omega) (by omega) ?_
  intro q4 M hP
  refine zs_dup (n := 53) dX16_init_52 rfl rfl ?_
  refine zh_linit (r := 1023) (n := 56) lNa dX16_init_53 ml_X16_9 hP qNa (kNa) (by simp) (by omega) rfl ?_
  intro M hP
  refine zh_putr (r := 1001) (n := 59) (lNn (by omega) (lNn (by omega) (lNn (by omega) (lNn (by omega) (lNn (by omega) lNa))))) dX16_init_56 pf_X16_init_25 hP (qRn (qIn (qNn (by omega) (qRn (qRn (qIn (qNn (by omega) (qRn (qRn (qIn (qNn (by omega) (qRn (qRn (qIn (qNn (by omega) (qRn (qRn (qIn (qNn (by omega) qNa))))))))))))))))))) ((kRn (kIn (kNn (by omega) (kRn (kRn (kIn (kNn (by omega) (kRn (kRn (kIn (kNn (by omega) (kRn (kRn (kIn (kNn (by omega) (kRn (kRn (kIn (kNn (by omega) kNa)))))))))))))))))))) ⟨rfl, rfl⟩ rfl ?_
  intro M hP
  refine zs_aload_n (n := 60) dX16_init_59 rfl rfl ?_
  refine zs_bipush (v := 8) (n := 62) dX16_init_60 (by decide) rfl ?_
  refine zs_bipush (v := 8) (n := 64) dX16_init_62 (by decide) rfl ?_
  refine zs_mna (nc1 := 0) (ns1 := 0) (n := 68) (gr := fun i => 1030 + i) dX16_init_64 cl_X16_28 w_aob w_ac_boolean rfl (by omega) (by omega) 1025 (fun q5 r hq hr hri => ?_)
  have hP := hP.mna (f := fun i => if i < 8 then some (r i) else none) hq hr hri (qRn (qRn (qIn (qNn (by omega) (qRn (qRn (qIn (qNn (by omega) (qRn (qRn (qIn (qNn (by omega) (qRn (qRn (qIn (qNn (by omega) (qRn (qRn (qIn (qNn (by omega) (qNn (by omega) rfl))))))))))))))))))))) (fun i hi => (qRn (qRn (qIn (qNn (by omega) (qRn (qRn (qIn (qNn (by omega) (qRn (qRn (qIn (qNn (by omega) (qRn (qRn (qIn (qNn (by omega) (qRn (qRn (qIn (qNn (by omega) (qNn (by omega) rfl))))))))))))))))))))))
  generalize zRows (sARr (zNew M q5 4 8 1025) q5 (fun i => if i < 8 then some (r i) else none)) r (fun i => 1030 + i) 8 = M9 at hP ⊢
  clear hr hri hq
  refine zh_putr (r := 1001) (n := 71) (lM (by omega) (lNn (by omega) (lNn (by omega) (lNn (by omega) (lNn (by omega) (lNn (by omega) lNa)))))) dX16_init_68 pf_X16_init_30 hP (qM (by omega) (qRn (qRn (qIn (qNn (by omega) (qRn (qRn (qIn (qNn (by omega) (qRn (qRn (qIn (qNn (by omega) (qRn (qRn (qIn (qNn (by omega) (qRn (qRn (qIn (qNn (by omega) qNa))))))))))))))))))))) ((kM (by omega) (kRn (kRn (kIn (kNn (by omega) (kRn (kRn (kIn (kNn (by omega) (kRn (kRn (kIn (kNn (by omega) (kRn (kRn (kIn (kNn (by omega) (kRn (kRn (kIn (kNn (by omega) kNa)))))))))))))))))))))) ⟨rfl, rfl⟩ rfl ?_
  intro M hP
  refine zs_aload_n (n := 72) dX16_init_71 rfl rfl ?_
  refine zs_iconst (v := 1) (n := 73) dX16_init_72 (by decide) rfl ?_
  refine zh_puti (r := 1001) (n := 76) (lM (by omega) (lNn (by omega) (lNn (by omega) (lNn (by omega) (lNn (by omega) (lNn (by omega) lNa)))))) dX16_init_73 pf_X16_init_33 hP (qRn (qM (by omega) (qRn (qRn (qIn (qNn (by omega) (qRn (qRn (qIn (qNn (by omega) (qRn (qRn (qIn (qNn (by omega) (qRn (qRn (qIn (qNn (by omega) (qRn (qRn (qIn (qNn (by omega) qNa)))))))))))))))))))))) ((kRn (kM (by omega) (kRn (kRn (kIn (kNn (by omega) (kRn (kRn (kIn (kNn (by omega) (kRn (kRn (kIn (kNn (by omega) (kRn (kRn (kIn (kNn (by omega) (kRn (kRn (kIn (kNn (by omega) kNa))))))))))))))))))))))) ⟨rfl, rfl⟩ rfl ?_
  intro M hP
  refine zs_aload_n (n := 77) dX16_init_76 rfl rfl ?_
  refine zs_iconst (v := -1) (n := 78) dX16_init_77 (by decide) rfl ?_
  refine zh_puti (r := 1001) (n := 81) (lM (by omega) (lNn (by omega) (lNn (by omega) (lNn (by omega) (lNn (by omega) (lNn (by omega) lNa)))))) dX16_init_78 pf_X16_init_37 hP (qIn (qRn (qM (by omega) (qRn (qRn (qIn (qNn (by omega) (qRn (qRn (qIn (qNn (by omega) (qRn (qRn (qIn (qNn (by omega) (qRn (qRn (qIn (qNn (by omega) (qRn (qRn (qIn (qNn (by omega) qNa))))))))))))))))))))))) ((kIn (kRn (kM (by omega) (kRn (kRn (kIn (kNn (by omega) (kRn (kRn (kIn (kNn (by omega) (kRn (kRn (kIn (kNn (by omega) (kRn (kRn (kIn (kNn (by omega) (kRn (kRn (kIn (kNn (by omega) kNa)))))))))))))))))))))))) ⟨rfl, rfl⟩ rfl ?_
  intro M hP
  refine zs_aload_n (n := 82) dX16_init_81 rfl rfl ?_
  refine zs_bipush (v := 99) (n := 84) dX16_init_82 (by decide) rfl ?_
  refine zh_puti (r := 1001) (n := 87) (lM (by omega) (lNn (by omega) (lNn (by omega) (lNn (by omega) (lNn (by omega) (lNn (by omega) lNa)))))) dX16_init_84 pf_X16_init_40 hP (qIn (qIn (qRn (qM (by omega) (qRn (qRn (qIn (qNn (by omega) (qRn (qRn (qIn (qNn (by omega) (qRn (qRn (qIn (qNn (by omega) (qRn (qRn (qIn (qNn (by omega) (qRn (qRn (qIn (qNn (by omega) qNa)))))))))))))))))))))))) ((kIn (kIn (kRn (kM (by omega) (kRn (kRn (kIn (kNn (by omega) (kRn (kRn (kIn (kNn (by omega) (kRn (kRn (kIn (kNn (by omega) (kRn (kRn (kIn (kNn (by omega) (kRn (kRn (kIn (kNn (by omega) kNa))))))))))))))))))))))))) ⟨rfl, rfl⟩ rfl ?_
  intro M hP
  refine zs_aload_n (n := 88) dX16_init_87 rfl rfl ?_
  refine zs_iconst (v := 0) (n := 89) dX16_init_88 (by decide) rfl ?_
  refine zh_puti (r := 1001) (n := 92) (lM (by omega) (lNn (by omega) (lNn (by omega) (lNn (by omega) (lNn (by omega) (lNn (by omega) lNa)))))) dX16_init_89 pf_X16_init_43 hP (qIn (qIn (qIn (qRn (qM (by omega) (qRn (qRn (qIn (qNn (by omega) (qRn (qRn (qIn (qNn (by omega) (qRn (qRn (qIn (qNn (by omega) (qRn (qRn (qIn (qNn (by omega) (qRn (qRn (qIn (qNn (by omega) qNa))))))))))))))))))))))))) ((kIn (kIn (kIn (kRn (kM (by omega) (kRn (kRn (kIn (kNn (by omega) (kRn (kRn (kIn (kNn (by omega) (kRn (kRn (kIn (kNn (by omega) (kRn (kRn (kIn (kNn (by omega) (kRn (kRn (kIn (kNn (by omega) kNa)))))))))))))))))))))))))) ⟨rfl, rfl⟩ rfl ?_
  intro M hP
  refine zs_return dX16_init_92 rfl (hQ _ ?_)
  exact ⟨q0, q1, q2, q3, q4, q5, r, hP⟩
end ZNEWM1
