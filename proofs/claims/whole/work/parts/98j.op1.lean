/-! OPERATIONS 1: the wrappers; indices -/
theorem ix_of {p : Int32} {n : Nat} (hn : n < 2 ^ 31) (h : ¬ p < 0 ∧ ¬ nI n ≤ p) : ∃ i, i < n ∧ p = nI i := by
  obtain ⟨j, hj, rfl⟩ := nI_of h.1
  refine ⟨j, ?_, rfl⟩
  rcases Nat.lt_or_ge j n with g | g
  · exact g
  · exact absurd (nI_le g hj) h.2
section ZOP1
variable {Z : zPar} {l : Launch} {x o : Nat}
theorem wr_L_addPitch {p q r : Int32} : zWr Z l mth_L_addPitch mth_X11_addPitch x o [.ref x, .int p, .int q, .int r, .ref o] [.ref x, .int p, .int q, .int r] cvI (fun k => if k = 0 then some 1 else if k = 4 then some 2 else if k = 1 then some 3 else none) := by
  intro M Q Post mc ms hx h k0 kx
  refine w_L_addPitch hx h (fun v M' hv => k0 v M' hv) (fun k M' hk => ?_)
  obtain ⟨c, hc, hq⟩ := kx k M' hk
  by_cases e0 : k = 0
  · subst e0
    have hc : some (1 : Int32) = some c := hc
    cases hc
    exact Or.inl ⟨rfl, hq⟩
  by_cases e1 : k = 4
  · subst e1
    have hc : some (2 : Int32) = some c := hc
    cases hc
    exact Or.inr (Or.inl ⟨rfl, hq⟩)
  by_cases e2 : k = 1
  · subst e2
    have hc : some (3 : Int32) = some c := hc
    cases hc
    exact Or.inr (Or.inr (⟨rfl, hq⟩))
  simp only [if_neg e0, if_neg e1, if_neg e2] at hc
  cases hc
theorem wr_L_setPassers {p q r : Int32} : zWr Z l mth_L_setPassers mth_X11_setPassers x o [.ref x, .int p, .int q, .int r, .ref o] [.ref x, .int p, .int q, .int r] cvI (fun k => if k = 2 then some 1 else if k = 0 then some 2 else none) := by
  intro M Q Post mc ms hx h k0 kx
  refine w_L_setPassers hx h (fun v M' hv => k0 v M' hv) (fun k M' hk => ?_)
  obtain ⟨c, hc, hq⟩ := kx k M' hk
  by_cases e0 : k = 2
  · subst e0
    have hc : some (1 : Int32) = some c := hc
    cases hc
    exact Or.inl ⟨rfl, hq⟩
  by_cases e1 : k = 0
  · subst e1
    have hc : some (2 : Int32) = some c := hc
    cases hc
    exact Or.inr (⟨rfl, hq⟩)
  simp only [if_neg e0, if_neg e1] at hc
  cases hc
theorem wr_L_passersAt {p q : Int32} : zWr Z l mth_L_passersAt mth_X11_passersAt x o [.ref x, .int p, .int q, .ref o] [.ref x, .int p, .int q] cvI (fun k => if k = 2 then some 1 else if k = 0 then some 2 else none) := by
  intro M Q Post mc ms hx h k0 kx
  refine w_L_passersAt hx h (fun v M' hv => k0 v M' hv) (fun k M' hk => ?_)
  obtain ⟨c, hc, hq⟩ := kx k M' hk
  by_cases e0 : k = 2
  · subst e0
    have hc : some (1 : Int32) = some c := hc
    cases hc
    exact Or.inl ⟨rfl, hq⟩
  by_cases e1 : k = 0
  · subst e1
    have hc : some (2 : Int32) = some c := hc
    cases hc
    exact Or.inr (⟨rfl, hq⟩)
  simp only [if_neg e0, if_neg e1] at hc
  cases hc
theorem wr_L_addAct {p q r s5 s6 : Int32} : zWr Z l mth_L_addAct mth_X11_addAct x o [.ref x, .int p, .int q, .int r, .int s5, .int s6, .ref o] [.ref x, .int p, .int q, .int r, .int s5, .int s6] cvI (fun k => if k = 0 then some 1 else if k = 1 then some 2 else none) := by
  intro M Q Post mc ms hx h k0 kx
  refine w_L_addAct hx h (fun v M' hv => k0 v M' hv) (fun k M' hk => ?_)
  obtain ⟨c, hc, hq⟩ := kx k M' hk
  by_cases e0 : k = 0
  · subst e0
    have hc : some (1 : Int32) = some c := hc
    cases hc
    exact Or.inl ⟨rfl, hq⟩
  by_cases e1 : k = 1
  · subst e1
    have hc : some (2 : Int32) = some c := hc
    cases hc
    exact Or.inr (⟨rfl, hq⟩)
  simp only [if_neg e0, if_neg e1] at hc
  cases hc
theorem wr_L_setLine {p q : Int32} : zWr Z l mth_L_setLine mth_X11_setLine x o [.ref x, .int p, .int q, .ref o] [.ref x, .int p, .int q] cvI (fun k => if k = 2 then some 1 else if k = 0 then some 2 else none) := by
  intro M Q Post mc ms hx h k0 kx
  refine w_L_setLine hx h (fun v M' hv => k0 v M' hv) (fun k M' hk => ?_)
  obtain ⟨c, hc, hq⟩ := kx k M' hk
  by_cases e0 : k = 2
  · subst e0
    have hc : some (1 : Int32) = some c := hc
    cases hc
    exact Or.inl ⟨rfl, hq⟩
  by_cases e1 : k = 0
  · subst e1
    have hc : some (2 : Int32) = some c := hc
    cases hc
    exact Or.inr (⟨rfl, hq⟩)
  simp only [if_neg e0, if_neg e1] at hc
  cases hc
theorem wr_L_setPermit {p q : Int32} : zWr Z l mth_L_setPermit mth_X11_setPermit x o [.ref x, .int p, .int q, .ref o] [.ref x, .int p, .int q] cvZ (fun k => if k = 2 then some 1 else none) := by
  intro M Q Post mc ms hx h k0 kx
  refine w_L_setPermit hx h (fun v M' hv => k0 v M' hv) (fun k M' hk => ?_)
  obtain ⟨c, hc, hq⟩ := kx k M' hk
  by_cases e0 : k = 2
  · subst e0
    have hc : some (1 : Int32) = some c := hc
    cases hc
    exact ⟨rfl, hq⟩
  simp only [if_neg e0] at hc
  cases hc
theorem wr_L_addCustom {p q : Int32} : zWr Z l mth_L_addCustom mth_X11_addCustom x o [.ref x, .int p, .int q, .ref o] [.ref x, .int p, .int q] cvZ (fun k => if k = 2 then some 1 else if k = 0 then some 2 else if k = 4 then some 3 else none) := by
  intro M Q Post mc ms hx h k0 kx
  refine w_L_addCustom hx h (fun v M' hv => k0 v M' hv) (fun k M' hk => ?_)
  obtain ⟨c, hc, hq⟩ := kx k M' hk
  by_cases e0 : k = 2
  · subst e0
    have hc : some (1 : Int32) = some c := hc
    cases hc
    exact Or.inl ⟨rfl, hq⟩
  by_cases e1 : k = 0
  · subst e1
    have hc : some (2 : Int32) = some c := hc
    cases hc
    exact Or.inr (Or.inl ⟨rfl, hq⟩)
  by_cases e2 : k = 4
  · subst e2
    have hc : some (3 : Int32) = some c := hc
    cases hc
    exact Or.inr (Or.inr (⟨rfl, hq⟩))
  simp only [if_neg e0, if_neg e1, if_neg e2] at hc
  cases hc
theorem wr_L_endCustom {p q : Int32} : zWr Z l mth_L_endCustom mth_X11_endCustom x o [.ref x, .int p, .int q, .ref o] [.ref x, .int p, .int q] cvZ (fun k => if k = 2 then some 1 else none) := by
  intro M Q Post mc ms hx h k0 kx
  refine w_L_endCustom hx h (fun v M' hv => k0 v M' hv) (fun k M' hk => ?_)
  obtain ⟨c, hc, hq⟩ := kx k M' hk
  by_cases e0 : k = 2
  · subst e0
    have hc : some (1 : Int32) = some c := hc
    cases hc
    exact ⟨rfl, hq⟩
  simp only [if_neg e0] at hc
  cases hc
theorem wr_L_orderAt {p q : Int32} : zWr Z l mth_L_orderAt mth_X11_orderAt x o [.ref x, .int p, .int q, .ref o] [.ref x, .int p, .int q] cvI (fun k => if k = 5 then some 1 else none) := by
  intro M Q Post mc ms hx h k0 kx
  refine w_L_orderAt hx h (fun v M' hv => k0 v M' hv) (fun k M' hk => ?_)
  obtain ⟨c, hc, hq⟩ := kx k M' hk
  by_cases e0 : k = 5
  · subst e0
    have hc : some (1 : Int32) = some c := hc
    cases hc
    exact ⟨rfl, hq⟩
  simp only [if_neg e0] at hc
  cases hc
theorem wr_L_lotAt {p : Int32} : zWr Z l mth_L_lotAt mth_X11_lotAt x o [.ref x, .int p, .ref o] [.ref x, .int p] cvI (fun k => if k = 5 then some 1 else none) := by
  intro M Q Post mc ms hx h k0 kx
  refine w_L_lotAt hx h (fun v M' hv => k0 v M' hv) (fun k M' hk => ?_)
  obtain ⟨c, hc, hq⟩ := kx k M' hk
  by_cases e0 : k = 5
  · subst e0
    have hc : some (1 : Int32) = some c := hc
    cases hc
    exact ⟨rfl, hq⟩
  simp only [if_neg e0] at hc
  cases hc
theorem wr_L_seed {p : Int32} : zWr Z l mth_L_seed mth_X11_seed x o [.ref x, .int p, .ref o] [.ref x, .int p] cvI (fun k => if k = 0 then some 1 else none) := by
  intro M Q Post mc ms hx h k0 kx
  refine w_L_seed hx h (fun v M' hv => k0 v M' hv) (fun k M' hk => ?_)
  obtain ⟨c, hc, hq⟩ := kx k M' hk
  by_cases e0 : k = 0
  · subst e0
    have hc : some (1 : Int32) = some c := hc
    cases hc
    exact ⟨rfl, hq⟩
  simp only [if_neg e0] at hc
  cases hc
theorem wr_L_addTurn {p q : Int32} : zWr Z l mth_L_addTurn mth_X11_addTurn x o [.ref x, .int p, .int q, .ref o] [.ref x, .int p, .int q] cvI (fun k => if k = 2 then some 1 else if k = 1 then some 2 else if k = 4 then some 3 else none) := by
  intro M Q Post mc ms hx h k0 kx
  refine w_L_addTurn hx h (fun v M' hv => k0 v M' hv) (fun k M' hk => ?_)
  obtain ⟨c, hc, hq⟩ := kx k M' hk
  by_cases e0 : k = 2
  · subst e0
    have hc : some (1 : Int32) = some c := hc
    cases hc
    exact Or.inl ⟨rfl, hq⟩
  by_cases e1 : k = 1
  · subst e1
    have hc : some (2 : Int32) = some c := hc
    cases hc
    exact Or.inr (Or.inl ⟨rfl, hq⟩)
  by_cases e2 : k = 4
  · subst e2
    have hc : some (3 : Int32) = some c := hc
    cases hc
    exact Or.inr (Or.inr (⟨rfl, hq⟩))
  simp only [if_neg e0, if_neg e1, if_neg e2] at hc
  cases hc
theorem wr_L_turnsByLots : zWr Z l mth_L_turnsByLots mth_X11_turnsByLots x o [.ref x, .ref o] [.ref x] cvI (fun k => if k = 1 then some 1 else if k = 4 then some 2 else none) := by
  intro M Q Post mc ms hx h k0 kx
  refine w_L_turnsByLots hx h (fun v M' hv => k0 v M' hv) (fun k M' hk => ?_)
  obtain ⟨c, hc, hq⟩ := kx k M' hk
  by_cases e0 : k = 1
  · subst e0
    have hc : some (1 : Int32) = some c := hc
    cases hc
    exact Or.inl ⟨rfl, hq⟩
  by_cases e1 : k = 4
  · subst e1
    have hc : some (2 : Int32) = some c := hc
    cases hc
    exact Or.inr (⟨rfl, hq⟩)
  simp only [if_neg e0, if_neg e1] at hc
  cases hc
theorem wr_L_exchange {p q r : Int32} : zWr Z l mth_L_exchange mth_X11_exchange x o [.ref x, .int p, .int q, .int r, .ref o] [.ref x, .int p, .int q, .int r] cvZ (fun k => if k = 2 then some 1 else if k = 1 then some 2 else if k = 4 then some 3 else none) := by
  intro M Q Post mc ms hx h k0 kx
  refine w_L_exchange hx h (fun v M' hv => k0 v M' hv) (fun k M' hk => ?_)
  obtain ⟨c, hc, hq⟩ := kx k M' hk
  by_cases e0 : k = 2
  · subst e0
    have hc : some (1 : Int32) = some c := hc
    cases hc
    exact Or.inl ⟨rfl, hq⟩
  by_cases e1 : k = 1
  · subst e1
    have hc : some (2 : Int32) = some c := hc
    cases hc
    exact Or.inr (Or.inl ⟨rfl, hq⟩)
  by_cases e2 : k = 4
  · subst e2
    have hc : some (3 : Int32) = some c := hc
    cases hc
    exact Or.inr (Or.inr (⟨rfl, hq⟩))
  simp only [if_neg e0, if_neg e1, if_neg e2] at hc
  cases hc
theorem wr_L_turnAt {p q : Int32} : zWr Z l mth_L_turnAt mth_X11_turnAt x o [.ref x, .int p, .int q, .ref o] [.ref x, .int p, .int q] cvI (fun k => if k = 2 then some 1 else if k = 5 then some 2 else none) := by
  intro M Q Post mc ms hx h k0 kx
  refine w_L_turnAt hx h (fun v M' hv => k0 v M' hv) (fun k M' hk => ?_)
  obtain ⟨c, hc, hq⟩ := kx k M' hk
  by_cases e0 : k = 2
  · subst e0
    have hc : some (1 : Int32) = some c := hc
    cases hc
    exact Or.inl ⟨rfl, hq⟩
  by_cases e1 : k = 5
  · subst e1
    have hc : some (2 : Int32) = some c := hc
    cases hc
    exact Or.inr (⟨rfl, hq⟩)
  simp only [if_neg e0, if_neg e1] at hc
  cases hc
theorem wr_L_setRain {p q : Int32} : zWr Z l mth_L_setRain mth_X11_setRain x o [.ref x, .int p, .int q, .ref o] [.ref x, .int p, .int q] cvI (fun k => if k = 0 then some 1 else none) := by
  intro M Q Post mc ms hx h k0 kx
  refine w_L_setRain hx h (fun v M' hv => k0 v M' hv) (fun k M' hk => ?_)
  obtain ⟨c, hc, hq⟩ := kx k M' hk
  by_cases e0 : k = 0
  · subst e0
    have hc : some (1 : Int32) = some c := hc
    cases hc
    exact ⟨rfl, hq⟩
  simp only [if_neg e0] at hc
  cases hc
theorem wr_L_setCold {p : Int32} : zWr Z l mth_L_setCold mth_X11_setCold x o [.ref x, .int p, .ref o] [.ref x, .int p] cvI (fun k => if k = 0 then some 1 else none) := by
  intro M Q Post mc ms hx h k0 kx
  refine w_L_setCold hx h (fun v M' hv => k0 v M' hv) (fun k M' hk => ?_)
  obtain ⟨c, hc, hq⟩ := kx k M' hk
  by_cases e0 : k = 0
  · subst e0
    have hc : some (1 : Int32) = some c := hc
    cases hc
    exact ⟨rfl, hq⟩
  simp only [if_neg e0] at hc
  cases hc
theorem wr_L_setLaw {p q : Int32} : zWr Z l mth_L_setLaw mth_X11_setLaw x o [.ref x, .int p, .int q, .ref o] [.ref x, .int p, .int q] cvI (fun k => if k = 0 then some 1 else none) := by
  intro M Q Post mc ms hx h k0 kx
  refine w_L_setLaw hx h (fun v M' hv => k0 v M' hv) (fun k M' hk => ?_)
  obtain ⟨c, hc, hq⟩ := kx k M' hk
  by_cases e0 : k = 0
  · subst e0
    have hc : some (1 : Int32) = some c := hc
    cases hc
    exact ⟨rfl, hq⟩
  simp only [if_neg e0] at hc
  cases hc
theorem wr_L_addVisit {p q : Int32} : zWr Z l mth_L_addVisit mth_X11_addVisit x o [.ref x, .int p, .int q, .ref o] [.ref x, .int p, .int q] cvI (fun k => if k = 2 then some 1 else if k = 0 then some 2 else if k = 1 then some 3 else none) := by
  intro M Q Post mc ms hx h k0 kx
  refine w_L_addVisit hx h (fun v M' hv => k0 v M' hv) (fun k M' hk => ?_)
  obtain ⟨c, hc, hq⟩ := kx k M' hk
  by_cases e0 : k = 2
  · subst e0
    have hc : some (1 : Int32) = some c := hc
    cases hc
    exact Or.inl ⟨rfl, hq⟩
  by_cases e1 : k = 0
  · subst e1
    have hc : some (2 : Int32) = some c := hc
    cases hc
    exact Or.inr (Or.inl ⟨rfl, hq⟩)
  by_cases e2 : k = 1
  · subst e2
    have hc : some (3 : Int32) = some c := hc
    cases hc
    exact Or.inr (Or.inr (⟨rfl, hq⟩))
  simp only [if_neg e0, if_neg e1, if_neg e2] at hc
  cases hc
theorem wr_L_join {p q : Int32} : zWr Z l mth_L_join mth_X11_join x o [.ref x, .int p, .int q, .ref o] [.ref x, .int p, .int q] cvI (fun k => if k = 2 then some 1 else if k = 0 then some 2 else none) := by
  intro M Q Post mc ms hx h k0 kx
  refine w_L_join hx h (fun v M' hv => k0 v M' hv) (fun k M' hk => ?_)
  obtain ⟨c, hc, hq⟩ := kx k M' hk
  by_cases e0 : k = 2
  · subst e0
    have hc : some (1 : Int32) = some c := hc
    cases hc
    exact Or.inl ⟨rfl, hq⟩
  by_cases e1 : k = 0
  · subst e1
    have hc : some (2 : Int32) = some c := hc
    cases hc
    exact Or.inr (⟨rfl, hq⟩)
  simp only [if_neg e0, if_neg e1] at hc
  cases hc
theorem wr_L_play : zWr Z l mth_L_play mth_X11_play x o [.ref x, .ref o] [.ref x] cvI (fun k => if k = 1 then some 1 else none) := by
  intro M Q Post mc ms hx h k0 kx
  refine w_L_play hx h (fun v M' hv => k0 v M' hv) (fun k M' hk => ?_)
  obtain ⟨c, hc, hq⟩ := kx k M' hk
  by_cases e0 : k = 1
  · subst e0
    have hc : some (1 : Int32) = some c := hc
    cases hc
    exact ⟨rfl, hq⟩
  simp only [if_neg e0] at hc
  cases hc
theorem wr_L_of {p q r : Int32} : zWr Z l mth_L_of mth_X11_of x o [.ref x, .int p, .int q, .int r, .ref o] [.ref x, .int p, .int q, .int r] cvI (fun k => if k = 2 then some 1 else if k = 0 then some 2 else if k = 1 then some 3 else if k = 5 then some 4 else none) := by
  intro M Q Post mc ms hx h k0 kx
  refine w_L_of hx h (fun v M' hv => k0 v M' hv) (fun k M' hk => ?_)
  obtain ⟨c, hc, hq⟩ := kx k M' hk
  by_cases e0 : k = 2
  · subst e0
    have hc : some (1 : Int32) = some c := hc
    cases hc
    exact Or.inl ⟨rfl, hq⟩
  by_cases e1 : k = 0
  · subst e1
    have hc : some (2 : Int32) = some c := hc
    cases hc
    exact Or.inr (Or.inl ⟨rfl, hq⟩)
  by_cases e2 : k = 1
  · subst e2
    have hc : some (3 : Int32) = some c := hc
    cases hc
    exact Or.inr (Or.inr (Or.inl ⟨rfl, hq⟩))
  by_cases e3 : k = 5
  · subst e3
    have hc : some (4 : Int32) = some c := hc
    cases hc
    exact Or.inr (Or.inr (Or.inr (⟨rfl, hq⟩)))
  simp only [if_neg e0, if_neg e1, if_neg e2, if_neg e3] at hc
  cases hc
theorem wr_L_isBroken {p q : Int32} : zWr Z l mth_L_isBroken mth_X11_isBroken x o [.ref x, .int p, .int q, .ref o] [.ref x, .int p, .int q] cvZ (fun k => if k = 2 then some 1 else if k = 1 then some 2 else if k = 5 then some 3 else none) := by
  intro M Q Post mc ms hx h k0 kx
  refine w_L_isBroken hx h (fun v M' hv => k0 v M' hv) (fun k M' hk => ?_)
  obtain ⟨c, hc, hq⟩ := kx k M' hk
  by_cases e0 : k = 2
  · subst e0
    have hc : some (1 : Int32) = some c := hc
    cases hc
    exact Or.inl ⟨rfl, hq⟩
  by_cases e1 : k = 1
  · subst e1
    have hc : some (2 : Int32) = some c := hc
    cases hc
    exact Or.inr (Or.inl ⟨rfl, hq⟩)
  by_cases e2 : k = 5
  · subst e2
    have hc : some (3 : Int32) = some c := hc
    cases hc
    exact Or.inr (Or.inr (⟨rfl, hq⟩))
  simp only [if_neg e0, if_neg e1, if_neg e2] at hc
  cases hc
theorem wr_L_fineAt {p : Int32} : zWr Z l mth_L_fineAt mth_X11_fineAt x o [.ref x, .int p, .ref o] [.ref x, .int p] cvI (fun k => if k = 1 then some 1 else if k = 5 then some 2 else none) := by
  intro M Q Post mc ms hx h k0 kx
  refine w_L_fineAt hx h (fun v M' hv => k0 v M' hv) (fun k M' hk => ?_)
  obtain ⟨c, hc, hq⟩ := kx k M' hk
  by_cases e0 : k = 1
  · subst e0
    have hc : some (1 : Int32) = some c := hc
    cases hc
    exact Or.inl ⟨rfl, hq⟩
  by_cases e1 : k = 5
  · subst e1
    have hc : some (2 : Int32) = some c := hc
    cases hc
    exact Or.inr (⟨rfl, hq⟩)
  simp only [if_neg e0, if_neg e1] at hc
  cases hc
theorem wr_L_sumAt {p : Int32} : zWr Z l mth_L_sumAt mth_X11_sumAt x o [.ref x, .int p, .ref o] [.ref x, .int p] cvI (fun k => if k = 1 then some 1 else if k = 5 then some 2 else none) := by
  intro M Q Post mc ms hx h k0 kx
  refine w_L_sumAt hx h (fun v M' hv => k0 v M' hv) (fun k M' hk => ?_)
  obtain ⟨c, hc, hq⟩ := kx k M' hk
  by_cases e0 : k = 1
  · subst e0
    have hc : some (1 : Int32) = some c := hc
    cases hc
    exact Or.inl ⟨rfl, hq⟩
  by_cases e1 : k = 5
  · subst e1
    have hc : some (2 : Int32) = some c := hc
    cases hc
    exact Or.inr (⟨rfl, hq⟩)
  simp only [if_neg e0, if_neg e1] at hc
  cases hc
theorem wr_L_money {p : Int32} : zWr Z l mth_L_money mth_X11_money x o [.ref x, .int p, .ref o] [.ref x, .int p] cvI (fun k => if k = 2 then some 1 else none) := by
  intro M Q Post mc ms hx h k0 kx
  refine w_L_money hx h (fun v M' hv => k0 v M' hv) (fun k M' hk => ?_)
  obtain ⟨c, hc, hq⟩ := kx k M' hk
  by_cases e0 : k = 2
  · subst e0
    have hc : some (1 : Int32) = some c := hc
    cases hc
    exact ⟨rfl, hq⟩
  simp only [if_neg e0] at hc
  cases hc
theorem wr_L_nextDay : zWr Z l mth_L_nextDay mth_X11_nextDay x o [.ref x, .ref o] [.ref x] cvI (fun k => if k = 1 then some 1 else none) := by
  intro M Q Post mc ms hx h k0 kx
  refine w_L_nextDay hx h (fun v M' hv => k0 v M' hv) (fun k M' hk => ?_)
  obtain ⟨c, hc, hq⟩ := kx k M' hk
  by_cases e0 : k = 1
  · subst e0
    have hc : some (1 : Int32) = some c := hc
    cases hc
    exact ⟨rfl, hq⟩
  simp only [if_neg e0] at hc
  cases hc
theorem wr_L_diary {p : Int32} : zWr Z l mth_L_diary mth_X11_diary x o [.ref x, .int p, .ref o] [.ref x, .int p] cvI (fun k => if k = 5 then some 1 else none) := by
  intro M Q Post mc ms hx h k0 kx
  refine w_L_diary hx h (fun v M' hv => k0 v M' hv) (fun k M' hk => ?_)
  obtain ⟨c, hc, hq⟩ := kx k M' hk
  by_cases e0 : k = 5
  · subst e0
    have hc : some (1 : Int32) = some c := hc
    cases hc
    exact ⟨rfl, hq⟩
  simp only [if_neg e0] at hc
  cases hc
end ZOP1
