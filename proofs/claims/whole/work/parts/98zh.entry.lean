/-! THE CLAIM 1: what holds as the law is entered -/
section ZWHOLE
variable {s : State} {args : Array Value}
theorem zkn_0 (hts : ∀ w ∈ lw_tbl, w.before args s = true) : ∃ (cC : ClassId) (iS : Nat → Nat), ∀ q : vw_C, vwCl[0]? = some q → u_Kn s q.1 q.2.1 q.2.2 cC iS := by
  obtain ⟨c, i, h⟩ := u_known (C := RJ0) (T := TJ0) (N := 2) (n := 4) hts (fun w hw => by
    obtain ⟨k, hk, rfl⟩ := List.mem_map.mp hw
    have hk := List.mem_range.mp hk
    match k, hk with
    | 0, _ => exact (tw_3 _ (List.mem_of_getElem? (i := 139) (by decide +kernel)))
    | 1, _ => exact (tw_3 _ (List.mem_of_getElem? (i := 141) (by decide +kernel)))
    | k + 2, hk => omega) (hts _ (tw_3 _ (List.mem_of_getElem? (i := 138) (by decide +kernel))))
  refine ⟨c, i, fun q hq => ?_⟩
  cases hq
  exact h
theorem zkn_1 (hts : ∀ w ∈ lw_tbl, w.before args s = true) : ∃ (cC : ClassId) (iS : Nat → Nat), ∀ q : vw_C, vwCl[1]? = some q → u_Kn s q.1 q.2.1 q.2.2 cC iS := by
  obtain ⟨c, i, h⟩ := u_known (C := RJ6) (T := TJ6) (N := 1) (n := 1) hts (fun w hw => (cls_1.2.1 w hw).1) (hts _ (tw_7 _ (List.mem_of_getElem? (i := 101) (by decide +kernel))))
  refine ⟨c, i, fun q hq => ?_⟩
  cases hq
  exact h
theorem zkn_2 (hts : ∀ w ∈ lw_tbl, w.before args s = true) : ∃ (cC : ClassId) (iS : Nat → Nat), ∀ q : vw_C, vwCl[2]? = some q → u_Kn s q.1 q.2.1 q.2.2 cC iS := by
  obtain ⟨c, i, h⟩ := u_known (C := RJx00060) (T := TJx00060) (N := 6) (n := 6) hts (fun w hw => by
    obtain ⟨k, hk, rfl⟩ := List.mem_map.mp hw
    have hk := List.mem_range.mp hk
    match k, hk with
    | 0, _ => exact (tw_3 _ (List.mem_of_getElem? (i := 127) (by decide +kernel)))
    | 1, _ => exact (tw_3 _ (List.mem_of_getElem? (i := 128) (by decide +kernel)))
    | 2, _ => exact (tw_3 _ (List.mem_of_getElem? (i := 129) (by decide +kernel)))
    | 3, _ => exact (tw_3 _ (List.mem_of_getElem? (i := 130) (by decide +kernel)))
    | 4, _ => exact (tw_3 _ (List.mem_of_getElem? (i := 131) (by decide +kernel)))
    | 5, _ => exact (tw_3 _ (List.mem_of_getElem? (i := 132) (by decide +kernel)))
    | k + 6, hk => omega) (hts _ (tw_3 _ (List.mem_of_getElem? (i := 120) (by decide +kernel))))
  refine ⟨c, i, fun q hq => ?_⟩
  cases hq
  exact h
theorem zkn_3 (hts : ∀ w ∈ lw_tbl, w.before args s = true) : ∃ (cC : ClassId) (iS : Nat → Nat), ∀ q : vw_C, vwCl[3]? = some q → u_Kn s q.1 q.2.1 q.2.2 cC iS := by
  obtain ⟨c, i, h⟩ := u_known (C := RJx35411) (T := TJx35411) (N := 4) (n := 4) hts (fun w hw => (cls_3.2.1 w hw).1) (hts _ (tw_6 _ (List.mem_of_getElem? (i := 132) (by decide +kernel))))
  refine ⟨c, i, fun q hq => ?_⟩
  cases hq
  exact h
theorem zkn_4 (hts : ∀ w ∈ lw_tbl, w.before args s = true) : ∃ (cC : ClassId) (iS : Nat → Nat), ∀ q : vw_C, vwCl[4]? = some q → u_Kn s q.1 q.2.1 q.2.2 cC iS := by
  obtain ⟨c, i, h⟩ := u_known (C := RJx4a65c) (T := TJx4a65c) (N := 3) (n := 3) hts (fun w hw => (cls_4.2.1 w hw).1) (hts _ (tw_1 _ (List.mem_of_getElem? (i := 60) (by decide +kernel))))
  refine ⟨c, i, fun q hq => ?_⟩
  cases hq
  exact h
theorem zkn_5 (hts : ∀ w ∈ lw_tbl, w.before args s = true) : ∃ (cC : ClassId) (iS : Nat → Nat), ∀ q : vw_C, vwCl[5]? = some q → u_Kn s q.1 q.2.1 q.2.2 cC iS := by
  obtain ⟨c, i, h⟩ := u_known (C := RX0) (T := TX0) (N := 9) (n := 9) hts (fun w hw => (cls_5.2.1 w hw).1) (hts _ (tw_3 _ (List.mem_of_getElem? (i := 185) (by decide +kernel))))
  refine ⟨c, i, fun q hq => ?_⟩
  cases hq
  exact h
theorem zkn_6 (hts : ∀ w ∈ lw_tbl, w.before args s = true) : ∃ (cC : ClassId) (iS : Nat → Nat), ∀ q : vw_C, vwCl[6]? = some q → u_Kn s q.1 q.2.1 q.2.2 cC iS := by
  obtain ⟨c, i, h⟩ := u_known (C := RX1) (T := TX1) (N := 2) (n := 2) hts (fun w hw => (cls_6.2.1 w hw).1) (hts _ (tw_1 _ (List.mem_of_getElem? (i := 99) (by decide +kernel))))
  refine ⟨c, i, fun q hq => ?_⟩
  cases hq
  exact h
theorem zkn_7 (hts : ∀ w ∈ lw_tbl, w.before args s = true) : ∃ (cC : ClassId) (iS : Nat → Nat), ∀ q : vw_C, vwCl[7]? = some q → u_Kn s q.1 q.2.1 q.2.2 cC iS := by
  obtain ⟨c, i, h⟩ := u_known (C := RX2) (T := TX2) (N := 9) (n := 9) hts (fun w hw => (cls_7.2.1 w hw).1) (hts _ (tw_1 _ (List.mem_of_getElem? (i := 179) (by decide +kernel))))
  refine ⟨c, i, fun q hq => ?_⟩
  cases hq
  exact h
theorem zkn_8 (hts : ∀ w ∈ lw_tbl, w.before args s = true) : ∃ (cC : ClassId) (iS : Nat → Nat), ∀ q : vw_C, vwCl[8]? = some q → u_Kn s q.1 q.2.1 q.2.2 cC iS := by
  obtain ⟨c, i, h⟩ := u_known (C := RX3) (T := TX3) (N := 2) (n := 2) hts (fun w hw => (cls_8.2.1 w hw).1) (hts _ (tw_1 _ (List.mem_of_getElem? (i := 221) (by decide +kernel))))
  refine ⟨c, i, fun q hq => ?_⟩
  cases hq
  exact h
theorem zkn_9 (hts : ∀ w ∈ lw_tbl, w.before args s = true) : ∃ (cC : ClassId) (iS : Nat → Nat), ∀ q : vw_C, vwCl[9]? = some q → u_Kn s q.1 q.2.1 q.2.2 cC iS := by
  obtain ⟨c, i, h⟩ := u_known (C := RX4) (T := TX4) (N := 2) (n := 2) hts (fun w hw => (cls_9.2.1 w hw).1) (hts _ (tw_1 _ (List.mem_of_getElem? (i := 163) (by decide +kernel))))
  refine ⟨c, i, fun q hq => ?_⟩
  cases hq
  exact h
theorem zkn_10 (hts : ∀ w ∈ lw_tbl, w.before args s = true) : ∃ (cC : ClassId) (iS : Nat → Nat), ∀ q : vw_C, vwCl[10]? = some q → u_Kn s q.1 q.2.1 q.2.2 cC iS := by
  obtain ⟨c, i, h⟩ := u_known (C := RX5) (T := TX5) (N := 6) (n := 6) hts (fun w hw => (cls_10.2.1 w hw).1) (hts _ (tw_1 _ (List.mem_of_getElem? (i := 115) (by decide +kernel))))
  refine ⟨c, i, fun q hq => ?_⟩
  cases hq
  exact h
theorem zkn_11 (hts : ∀ w ∈ lw_tbl, w.before args s = true) : ∃ (cC : ClassId) (iS : Nat → Nat), ∀ q : vw_C, vwCl[11]? = some q → u_Kn s q.1 q.2.1 q.2.2 cC iS := by
  obtain ⟨c, i, h⟩ := u_known (C := RX6) (T := TX6) (N := 8) (n := 8) hts (fun w hw => (cls_11.2.1 w hw).1) (hts _ (tw_3 _ (List.mem_of_getElem? (i := 3) (by decide +kernel))))
  refine ⟨c, i, fun q hq => ?_⟩
  cases hq
  exact h
theorem zkn_12 (hts : ∀ w ∈ lw_tbl, w.before args s = true) : ∃ (cC : ClassId) (iS : Nat → Nat), ∀ q : vw_C, vwCl[12]? = some q → u_Kn s q.1 q.2.1 q.2.2 cC iS := by
  obtain ⟨c, i, h⟩ := u_known (C := RX7) (T := TX7) (N := 2) (n := 2) hts (fun w hw => (cls_12.2.1 w hw).1) (hts _ (tw_1 _ (List.mem_of_getElem? (i := 54) (by decide +kernel))))
  refine ⟨c, i, fun q hq => ?_⟩
  cases hq
  exact h
theorem zkn_13 (hts : ∀ w ∈ lw_tbl, w.before args s = true) : ∃ (cC : ClassId) (iS : Nat → Nat), ∀ q : vw_C, vwCl[13]? = some q → u_Kn s q.1 q.2.1 q.2.2 cC iS := by
  obtain ⟨c, i, h⟩ := u_known (C := RX8) (T := TX8) (N := 9) (n := 9) hts (fun w hw => (cls_13.2.1 w hw).1) (hts _ (tw_4 _ (List.mem_of_getElem? (i := 110) (by decide +kernel))))
  refine ⟨c, i, fun q hq => ?_⟩
  cases hq
  exact h
theorem zkn_14 (hts : ∀ w ∈ lw_tbl, w.before args s = true) : ∃ (cC : ClassId) (iS : Nat → Nat), ∀ q : vw_C, vwCl[14]? = some q → u_Kn s q.1 q.2.1 q.2.2 cC iS := by
  obtain ⟨c, i, h⟩ := u_known (C := RX9) (T := TX9) (N := 4) (n := 4) hts (fun w hw => (cls_14.2.1 w hw).1) (hts _ (tw_4 _ (List.mem_of_getElem? (i := 233) (by decide +kernel))))
  refine ⟨c, i, fun q hq => ?_⟩
  cases hq
  exact h
theorem zkn_15 (hts : ∀ w ∈ lw_tbl, w.before args s = true) : ∃ (cC : ClassId) (iS : Nat → Nat), ∀ q : vw_C, vwCl[15]? = some q → u_Kn s q.1 q.2.1 q.2.2 cC iS := by
  obtain ⟨c, i, h⟩ := u_known (C := RX10) (T := TX10) (N := 3) (n := 3) hts (fun w hw => (cls_15.2.1 w hw).1) (hts _ (tw_1 _ (List.mem_of_getElem? (i := 144) (by decide +kernel))))
  refine ⟨c, i, fun q hq => ?_⟩
  cases hq
  exact h
theorem zkn_16 (hts : ∀ w ∈ lw_tbl, w.before args s = true) : ∃ (cC : ClassId) (iS : Nat → Nat), ∀ q : vw_C, vwCl[16]? = some q → u_Kn s q.1 q.2.1 q.2.2 cC iS := by
  obtain ⟨c, i, h⟩ := u_known (C := RX11) (T := TX11) (N := 7) (n := 7) hts (fun w hw => (cls_16.2.1 w hw).1) (hts _ (tw_1 _ (List.mem_of_getElem? (i := 46) (by decide +kernel))))
  refine ⟨c, i, fun q hq => ?_⟩
  cases hq
  exact h
theorem zkn_17 (hts : ∀ w ∈ lw_tbl, w.before args s = true) : ∃ (cC : ClassId) (iS : Nat → Nat), ∀ q : vw_C, vwCl[17]? = some q → u_Kn s q.1 q.2.1 q.2.2 cC iS := by
  obtain ⟨c, i, h⟩ := u_known (C := RX12) (T := TX12) (N := 8) (n := 8) hts (fun w hw => (cls_17.2.1 w hw).1) (hts _ (tw_7 _ (List.mem_of_getElem? (i := 8) (by decide +kernel))))
  refine ⟨c, i, fun q hq => ?_⟩
  cases hq
  exact h
theorem zkn_18 (hts : ∀ w ∈ lw_tbl, w.before args s = true) : ∃ (cC : ClassId) (iS : Nat → Nat), ∀ q : vw_C, vwCl[18]? = some q → u_Kn s q.1 q.2.1 q.2.2 cC iS := by
  obtain ⟨c, i, h⟩ := u_known (C := RX13) (T := TX13) (N := 5) (n := 5) hts (fun w hw => (cls_18.2.1 w hw).1) (hts _ (tw_6 _ (List.mem_of_getElem? (i := 191) (by decide +kernel))))
  refine ⟨c, i, fun q hq => ?_⟩
  cases hq
  exact h
theorem zkn_19 (hts : ∀ w ∈ lw_tbl, w.before args s = true) : ∃ (cC : ClassId) (iS : Nat → Nat), ∀ q : vw_C, vwCl[19]? = some q → u_Kn s q.1 q.2.1 q.2.2 cC iS := by
  obtain ⟨c, i, h⟩ := u_known (C := RX14) (T := TX14) (N := 8) (n := 8) hts (fun w hw => (cls_19.2.1 w hw).1) (hts _ (tw_7 _ (List.mem_of_getElem? (i := 134) (by decide +kernel))))
  refine ⟨c, i, fun q hq => ?_⟩
  cases hq
  exact h
theorem zkn_20 (hts : ∀ w ∈ lw_tbl, w.before args s = true) : ∃ (cC : ClassId) (iS : Nat → Nat), ∀ q : vw_C, vwCl[20]? = some q → u_Kn s q.1 q.2.1 q.2.2 cC iS := by
  obtain ⟨c, i, h⟩ := u_known (C := RX15) (T := TX15) (N := 4) (n := 4) hts (fun w hw => (cls_20.2.1 w hw).1) (hts _ (tw_7 _ (List.mem_of_getElem? (i := 232) (by decide +kernel))))
  refine ⟨c, i, fun q hq => ?_⟩
  cases hq
  exact h
theorem zkn_21 (hts : ∀ w ∈ lw_tbl, w.before args s = true) : ∃ (cC : ClassId) (iS : Nat → Nat), ∀ q : vw_C, vwCl[21]? = some q → u_Kn s q.1 q.2.1 q.2.2 cC iS := by
  obtain ⟨c, i, h⟩ := u_known (C := RX16) (T := TX16) (N := 18) (n := 18) hts (fun w hw => (cls_21.2.1 w hw).1) (hts _ (tw_6 _ (List.mem_of_getElem? (i := 54) (by decide +kernel))))
  refine ⟨c, i, fun q hq => ?_⟩
  cases hq
  exact h
theorem zkn_all (hts : ∀ w ∈ lw_tbl, w.before args s = true) : ∃ D : va_G, ∀ (k : Nat) (q : vw_C), vwCl[k]? = some q → u_Kn s q.1 q.2.1 q.2.2 (D.1 k) (D.2 k) := by
  have h : ∀ k : Nat, ∃ (z : ClassId × (Nat → Nat)), ∀ q : vw_C, vwCl[k]? = some q → u_Kn s q.1 q.2.1 q.2.2 z.1 z.2 := by
    intro k
    match k with
    | 0 => obtain ⟨c, i, h⟩ := zkn_0 hts; exact ⟨(c, i), h⟩
    | 1 => obtain ⟨c, i, h⟩ := zkn_1 hts; exact ⟨(c, i), h⟩
    | 2 => obtain ⟨c, i, h⟩ := zkn_2 hts; exact ⟨(c, i), h⟩
    | 3 => obtain ⟨c, i, h⟩ := zkn_3 hts; exact ⟨(c, i), h⟩
    | 4 => obtain ⟨c, i, h⟩ := zkn_4 hts; exact ⟨(c, i), h⟩
    | 5 => obtain ⟨c, i, h⟩ := zkn_5 hts; exact ⟨(c, i), h⟩
    | 6 => obtain ⟨c, i, h⟩ := zkn_6 hts; exact ⟨(c, i), h⟩
    | 7 => obtain ⟨c, i, h⟩ := zkn_7 hts; exact ⟨(c, i), h⟩
    | 8 => obtain ⟨c, i, h⟩ := zkn_8 hts; exact ⟨(c, i), h⟩
    | 9 => obtain ⟨c, i, h⟩ := zkn_9 hts; exact ⟨(c, i), h⟩
    | 10 => obtain ⟨c, i, h⟩ := zkn_10 hts; exact ⟨(c, i), h⟩
    | 11 => obtain ⟨c, i, h⟩ := zkn_11 hts; exact ⟨(c, i), h⟩
    | 12 => obtain ⟨c, i, h⟩ := zkn_12 hts; exact ⟨(c, i), h⟩
    | 13 => obtain ⟨c, i, h⟩ := zkn_13 hts; exact ⟨(c, i), h⟩
    | 14 => obtain ⟨c, i, h⟩ := zkn_14 hts; exact ⟨(c, i), h⟩
    | 15 => obtain ⟨c, i, h⟩ := zkn_15 hts; exact ⟨(c, i), h⟩
    | 16 => obtain ⟨c, i, h⟩ := zkn_16 hts; exact ⟨(c, i), h⟩
    | 17 => obtain ⟨c, i, h⟩ := zkn_17 hts; exact ⟨(c, i), h⟩
    | 18 => obtain ⟨c, i, h⟩ := zkn_18 hts; exact ⟨(c, i), h⟩
    | 19 => obtain ⟨c, i, h⟩ := zkn_19 hts; exact ⟨(c, i), h⟩
    | 20 => obtain ⟨c, i, h⟩ := zkn_20 hts; exact ⟨(c, i), h⟩
    | 21 => obtain ⟨c, i, h⟩ := zkn_21 hts; exact ⟨(c, i), h⟩
    | k + 22 =>
      obtain ⟨c, i, -⟩ := zkn_1 hts
      exact ⟨(c, i), fun q hq => by simp [vwCl] at hq⟩
  obtain ⟨f, hf⟩ := Classical.axiomOfChoice h
  exact ⟨(fun k => (f k).1, fun k => (f k).2), hf⟩
theorem zarr_p {ty : FieldType} (hra : ∀ (U : State) (c : ClassId), va_RA U c ty = (U.vm.findClass ("[" ++ ty.toString) = some c)) (h : (Cond.arrayClass ty).before args s = true) : ∃ c : ClassId, ArrOfT s c ty ∧ va_RA s c ty := by
  obtain ⟨c, k, comp, h1, h2, h3⟩ := Cond.arrayClass_spec h
  exact ⟨c, fun n z => ⟨(fun k h => by cases h), k, h2, comp, h3⟩, by rw [hra]; exact h1⟩
theorem zarr_o {C : String} (h : (Cond.arrayOver (.object C)).before args s = true) : ∃ c : ClassId, ArrOfT s c (.object C) ∧ va_RA s c (.object C) := by
  obtain ⟨comp, c, k, h1, -, h2, h3, h4⟩ := Cond.arrayOver_spec h
  exact ⟨c, fun n z => ⟨(fun k h => by cases h), k, h2, comp, h3⟩, k, comp, h2, h3, h1, h4⟩
theorem zarr_a {t : FieldType} (h : (Cond.arrayOver (.array t)).before args s = true) : ∃ c : ClassId, ArrOfT s c (.array t) ∧ va_RA s c (.array t) := by
  obtain ⟨comp, c, k, h1, h2, h3, h4⟩ := Cond.arrayOver_specA h
  exact ⟨c, fun n z => ⟨(fun k h => by cases h), k, h2, comp, h3⟩, h4⟩
theorem zstr_ok (hts : ∀ w ∈ lw_tbl, w.before args s = true) (hs : ∀ c ∈ flatC (Jvm.Cond.and given_1 narrow_1), c.before args s = true) : ∀ q ∈ zStrs, ∃ a, vk_R q.1 q.2.1 q.2.2 a s := by
  have h : ∀ (own tx : String) (k : Nat), (Cond.stringRef own k tx).before args s = true → (Cond.exactly (.string own k) "java/lang/String").before args s = true → ∃ a, vk_R own k tx a s := fun own tx k h1 h2 => by
    obtain ⟨a, -, -, -, h3, -⟩ := Cond.exactly_spec h2
    exact ⟨a, vk_R.of h1 h3⟩
  intro q hq
  unfold zStrs at hq
  simp only [List.mem_cons, List.not_mem_nil, or_false] at hq
  rcases hq with rfl | rfl | rfl | rfl | rfl | rfl | rfl | rfl | rfl | rfl | rfl | rfl | rfl | rfl | rfl | rfl | rfl | rfl | rfl | rfl | rfl | rfl | rfl | rfl | rfl
  · exact h _ _ _ (hts _ (tw_2 _ (List.mem_of_getElem? (i := 220) (by decide +kernel)))) (hs _ (List.mem_of_getElem? (i := 211) (by decide +kernel)))
  · exact h _ _ _ (hts _ (tw_2 _ (List.mem_of_getElem? (i := 236) (by decide +kernel)))) (hs _ (List.mem_of_getElem? (i := 232) (by decide +kernel)))
  · exact h _ _ _ (hts _ (tw_3 _ (List.mem_of_getElem? (i := 184) (by decide +kernel)))) (hs _ (List.mem_of_getElem? (i := 276) (by decide +kernel)))
  · exact h _ _ _ (hts _ (tw_4 _ (List.mem_of_getElem? (i := 27) (by decide +kernel)))) (hs _ (List.mem_of_getElem? (i := 343) (by decide +kernel)))
  · exact h _ _ _ (hts _ (tw_4 _ (List.mem_of_getElem? (i := 64) (by decide +kernel)))) (hs _ (List.mem_of_getElem? (i := 386) (by decide +kernel)))
  · exact h _ _ _ (hts _ (tw_4 _ (List.mem_of_getElem? (i := 71) (by decide +kernel)))) (hs _ (List.mem_of_getElem? (i := 411) (by decide +kernel)))
  · exact h _ _ _ (hts _ (tw_4 _ (List.mem_of_getElem? (i := 83) (by decide +kernel)))) (hs _ (List.mem_of_getElem? (i := 437) (by decide +kernel)))
  · exact h _ _ _ (hts _ (tw_4 _ (List.mem_of_getElem? (i := 108) (by decide +kernel)))) (hs _ (List.mem_of_getElem? (i := 495) (by decide +kernel)))
  · exact h _ _ _ (hts _ (tw_4 _ (List.mem_of_getElem? (i := 163) (by decide +kernel)))) (hs _ (List.mem_of_getElem? (i := 530) (by decide +kernel)))
  · exact h _ _ _ (hts _ (tw_4 _ (List.mem_of_getElem? (i := 179) (by decide +kernel)))) (hs _ (List.mem_of_getElem? (i := 567) (by decide +kernel)))
  · exact h _ _ _ (hts _ (tw_4 _ (List.mem_of_getElem? (i := 187) (by decide +kernel)))) (hs _ (List.mem_of_getElem? (i := 597) (by decide +kernel)))
  · exact h _ _ _ (hts _ (tw_4 _ (List.mem_of_getElem? (i := 231) (by decide +kernel)))) (hs _ (List.mem_of_getElem? (i := 638) (by decide +kernel)))
  · exact h _ _ _ (hts _ (tw_6 _ (List.mem_of_getElem? (i := 7) (by decide +kernel)))) (hs _ (List.mem_of_getElem? (i := 833) (by decide +kernel)))
  · exact h _ _ _ (hts _ (tw_6 _ (List.mem_of_getElem? (i := 34) (by decide +kernel)))) (hs _ (List.mem_of_getElem? (i := 870) (by decide +kernel)))
  · exact h _ _ _ (hts _ (tw_6 _ (List.mem_of_getElem? (i := 52) (by decide +kernel)))) (hs _ (List.mem_of_getElem? (i := 904) (by decide +kernel)))
  · exact h _ _ _ (hts _ (tw_2 _ (List.mem_of_getElem? (i := 180) (by decide +kernel)))) (hs _ (List.mem_of_getElem? (i := 183) (by decide +kernel)))
  · exact h _ _ _ (hts _ (tw_5 _ (List.mem_of_getElem? (i := 170) (by decide +kernel)))) (hs _ (List.mem_of_getElem? (i := 672) (by decide +kernel)))
  · exact h _ _ _ (hts _ (tw_3 _ (List.mem_of_getElem? (i := 161) (by decide +kernel)))) (hs _ (List.mem_of_getElem? (i := 256) (by decide +kernel)))
  · exact h _ _ _ (hts _ (tw_4 _ (List.mem_of_getElem? (i := 3) (by decide +kernel)))) (hs _ (List.mem_of_getElem? (i := 296) (by decide +kernel)))
  · exact h _ _ _ (hts _ (tw_4 _ (List.mem_of_getElem? (i := 22) (by decide +kernel)))) (hs _ (List.mem_of_getElem? (i := 316) (by decide +kernel)))
  · exact h _ _ _ (hts _ (tw_4 _ (List.mem_of_getElem? (i := 103) (by decide +kernel)))) (hs _ (List.mem_of_getElem? (i := 462) (by decide +kernel)))
  · exact h _ _ _ (hts _ (tw_5 _ (List.mem_of_getElem? (i := 175) (by decide +kernel)))) (hs _ (List.mem_of_getElem? (i := 706) (by decide +kernel)))
  · exact h _ _ _ (hts _ (tw_5 _ (List.mem_of_getElem? (i := 180) (by decide +kernel)))) (hs _ (List.mem_of_getElem? (i := 750) (by decide +kernel)))
  · exact h _ _ _ (hts _ (tw_5 _ (List.mem_of_getElem? (i := 203) (by decide +kernel)))) (hs _ (List.mem_of_getElem? (i := 796) (by decide +kernel)))
  · exact h _ _ _ (hts _ (tw_8 _ (List.mem_of_getElem? (i := 64) (by decide +kernel)))) (hs _ (List.mem_of_getElem? (i := 938) (by decide +kernel)))
theorem znc_ok (hs : ∀ c ∈ flatC (Jvm.Cond.and given_1 narrow_1), c.before args s = true) : ∀ k j, k < 6 → j < 6 → k ≠ j → va_Nc (zXN k) (zXN j) s := by
  intro k j hk hj hne
  match k, j, hk, hj with
  | 0, 0, _, _ => exact absurd rfl hne
  | 0, 1, _, _ => exact va_Nc.of (hs _ (List.mem_of_getElem? (i := 87) (by decide +kernel)))
  | 0, 2, _, _ => exact va_Nc.of (hs _ (List.mem_of_getElem? (i := 113) (by decide +kernel)))
  | 0, 3, _, _ => exact va_Nc.of (hs _ (List.mem_of_getElem? (i := 164) (by decide +kernel)))
  | 0, 4, _, _ => exact va_Nc.of (hs _ (List.mem_of_getElem? (i := 61) (by decide +kernel)))
  | 0, 5, _, _ => exact va_Nc.of (hs _ (List.mem_of_getElem? (i := 138) (by decide +kernel)))
  | 1, 0, _, _ => exact va_Nc.of (hs _ (List.mem_of_getElem? (i := 36) (by decide +kernel)))
  | 1, 1, _, _ => exact absurd rfl hne
  | 1, 2, _, _ => exact va_Nc.of (hs _ (List.mem_of_getElem? (i := 115) (by decide +kernel)))
  | 1, 3, _, _ => exact va_Nc.of (hs _ (List.mem_of_getElem? (i := 166) (by decide +kernel)))
  | 1, 4, _, _ => exact va_Nc.of (hs _ (List.mem_of_getElem? (i := 62) (by decide +kernel)))
  | 1, 5, _, _ => exact va_Nc.of (hs _ (List.mem_of_getElem? (i := 140) (by decide +kernel)))
  | 2, 0, _, _ => exact va_Nc.of (hs _ (List.mem_of_getElem? (i := 42) (by decide +kernel)))
  | 2, 1, _, _ => exact va_Nc.of (hs _ (List.mem_of_getElem? (i := 94) (by decide +kernel)))
  | 2, 2, _, _ => exact absurd rfl hne
  | 2, 3, _, _ => exact va_Nc.of (hs _ (List.mem_of_getElem? (i := 172) (by decide +kernel)))
  | 2, 4, _, _ => exact va_Nc.of (hs _ (List.mem_of_getElem? (i := 68) (by decide +kernel)))
  | 2, 5, _, _ => exact va_Nc.of (hs _ (List.mem_of_getElem? (i := 145) (by decide +kernel)))
  | 3, 0, _, _ => exact va_Nc.of (hs _ (List.mem_of_getElem? (i := 50) (by decide +kernel)))
  | 3, 1, _, _ => exact va_Nc.of (hs _ (List.mem_of_getElem? (i := 102) (by decide +kernel)))
  | 3, 2, _, _ => exact va_Nc.of (hs _ (List.mem_of_getElem? (i := 127) (by decide +kernel)))
  | 3, 3, _, _ => exact absurd rfl hne
  | 3, 4, _, _ => exact va_Nc.of (hs _ (List.mem_of_getElem? (i := 76) (by decide +kernel)))
  | 3, 5, _, _ => exact va_Nc.of (hs _ (List.mem_of_getElem? (i := 153) (by decide +kernel)))
  | 4, 0, _, _ => exact va_Nc.of (hs _ (List.mem_of_getElem? (i := 35) (by decide +kernel)))
  | 4, 1, _, _ => exact va_Nc.of (hs _ (List.mem_of_getElem? (i := 88) (by decide +kernel)))
  | 4, 2, _, _ => exact va_Nc.of (hs _ (List.mem_of_getElem? (i := 114) (by decide +kernel)))
  | 4, 3, _, _ => exact va_Nc.of (hs _ (List.mem_of_getElem? (i := 165) (by decide +kernel)))
  | 4, 4, _, _ => exact absurd rfl hne
  | 4, 5, _, _ => exact va_Nc.of (hs _ (List.mem_of_getElem? (i := 139) (by decide +kernel)))
  | 5, 0, _, _ => exact va_Nc.of (hs _ (List.mem_of_getElem? (i := 39) (by decide +kernel)))
  | 5, 1, _, _ => exact va_Nc.of (hs _ (List.mem_of_getElem? (i := 91) (by decide +kernel)))
  | 5, 2, _, _ => exact va_Nc.of (hs _ (List.mem_of_getElem? (i := 118) (by decide +kernel)))
  | 5, 3, _, _ => exact va_Nc.of (hs _ (List.mem_of_getElem? (i := 169) (by decide +kernel)))
  | 5, 4, _, _ => exact va_Nc.of (hs _ (List.mem_of_getElem? (i := 65) (by decide +kernel)))
  | 5, 5, _, _ => exact absurd rfl hne
  | k + 6, _, hk, _ => omega
  | _, j + 6, _, hj => omega
set_option maxHeartbeats 1000000 in
/-- all of it, for one Z -/
theorem zstart {b L : Nat} {xs : Nat → Int32} (hts : ∀ w ∈ lw_tbl, w.before args s = true) (hs : ∀ c ∈ flatC (Jvm.Cond.and given_1 narrow_1), c.before args s = true) (hX : va_X b L xs s s.heap) (hbl : b < s.heap.size) : ∃ Z : zPar, zPb Z = s.heap.size ∧ zPs Z = (b, L, xs) ∧ zW s ∧ va_K (zPD Z) vwCl (zTy Z) s ∧ zEnv Z s s.heap := by
  have hA : ∀ a : Nat, a < s.heap.size → ¬ (fun q : Nat => s.heap.size ≤ q) a := fun a h => Nat.not_le.mpr h
  obtain ⟨D, hD⟩ := zkn_all hts
  obtain ⟨t0, a0⟩ := zarr_p (ty := .int) (fun _ _ => rfl) (hts _ (tw_1 _ (List.mem_of_getElem? (i := 113) (by decide +kernel))))
  obtain ⟨t1, a1⟩ := zarr_p (ty := .boolean) (fun _ _ => rfl) (hts _ (tw_6 _ (List.mem_of_getElem? (i := 118) (by decide +kernel))))
  obtain ⟨t2, a2⟩ := zarr_o (C := "java/lang/Object") (hts _ (tw_3 _ (List.mem_of_getElem? (i := 108) (by decide +kernel))))
  obtain ⟨t3, a3⟩ := zarr_a (t := .boolean) (hts _ (tw_6 _ (List.mem_of_getElem? (i := 62) (by decide +kernel))))
  obtain ⟨t4, a4⟩ := zarr_p (ty := .long) (fun _ _ => rfl) (hts _ (tw_8 _ (List.mem_of_getElem? (i := 209) (by decide +kernel))))
  obtain ⟨t5, a5⟩ := zarr_p (ty := .double) (fun _ _ => rfl) (hts _ (tw_8 _ (List.mem_of_getElem? (i := 210) (by decide +kernel))))
  obtain ⟨e, he, hE⟩ := va_Tof (tm := (.static "java/util/ArrayList" "DEFAULTCAPACITY_EMPTY_ELEMENTDATA" "[Ljava/lang/Object;")) (ty := .object "java/lang/Object") (N := 0) (f := fun _ => .null) (A := fun q : Nat => s.heap.size ≤ q) (by omega) (hs _ (List.mem_of_getElem? (i := 5) (by decide +kernel))) (Cond.eq_int (b := .int 0) (hs _ (List.mem_of_getElem? (i := 7) (by decide +kernel))) rfl) (fun j hj => absurd hj (Nat.not_lt_zero _)) hA
  obtain ⟨ad, hC, hCe⟩ := vb_Cof (st := (.static "java/lang/Integer$IntegerCache" "cache" "[Ljava/lang/Integer;")) (A := fun q : Nat => s.heap.size ≤ q) rfl (Cond.eq_int (b := .int 256) (hs _ (List.mem_of_getElem? (i := 13) (by decide +kernel))) rfl) (hs _ (List.mem_of_getElem? (i := 14) (by decide +kernel))) hA
  obtain ⟨x2, hx2, hT2⟩ := va_Tof (tm := (.static "java/lang/Integer$IntegerCache" "cache" "[Ljava/lang/Integer;")) (ty := .object "java/lang/Integer") (N := 256) (f := fun j => .ref (ad j)) (A := fun q : Nat => s.heap.size ≤ q) (by omega) (hs _ (List.mem_of_getElem? (i := 12) (by decide +kernel))) (Cond.eq_int (b := .int 256) (hs _ (List.mem_of_getElem? (i := 13) (by decide +kernel))) rfl) hCe hA
  obtain ⟨x0, hm0⟩ := va_Mi.of (C := "[Ljava/lang/Object;") (hs _ (List.mem_of_getElem? (i := 180) (by decide +kernel)))
  obtain ⟨x1, hm1⟩ := va_Mi.of (C := "java/util/ArrayList") (hs _ (List.mem_of_getElem? (i := 181) (by decide +kernel)))
  have hex : (Cond.exactly (.string "HatpitchModel" 307) "java/lang/String").before args s = true := (hs _ (List.mem_of_getElem? (i := 938) (by decide +kernel)))
  obtain ⟨x3, -, -, -, hx3, -⟩ := Cond.exactly_spec hex
  obtain ⟨x4, hx4, hT4⟩ := va_Tof (tm := (.field (.string "HatpitchModel" 307) "java/lang/String" "value" "[B")) (ty := .byte) (N := 6) (f := fun j => .int (zBem j)) (A := fun q : Nat => s.heap.size ≤ q) (by omega) (hs _ (List.mem_of_getElem? (i := 940) (by decide +kernel))) (Cond.eq_int (b := .int 6) (hs _ (List.mem_of_getElem? (i := 941) (by decide +kernel))) rfl) (fun j hj => by
    match j, hj with
    | 0, _ => exact Cond.eq_int (b := .int 98) (hs _ (List.mem_of_getElem? (i := 942) (by decide +kernel))) rfl
    | 1, _ => exact Cond.eq_int (b := .int 101) (hs _ (List.mem_of_getElem? (i := 943) (by decide +kernel))) rfl
    | 2, _ => exact Cond.eq_int (b := .int 109) (hs _ (List.mem_of_getElem? (i := 944) (by decide +kernel))) rfl
    | 3, _ => exact Cond.eq_int (b := .int 115) (hs _ (List.mem_of_getElem? (i := 945) (by decide +kernel))) rfl
    | 4, _ => exact Cond.eq_int (b := .int 99) (hs _ (List.mem_of_getElem? (i := 946) (by decide +kernel))) rfl
    | 5, _ => exact Cond.eq_int (b := .int 100) (hs _ (List.mem_of_getElem? (i := 947) (by decide +kernel))) rfl
    | j + 6, hj => omega) hA
  refine ⟨(s.heap.size, D, (fun k => if k = 0 then t0 else if k = 1 then t1 else if k = 2 then t2 else if k = 3 then t3 else if k = 4 then t4 else t5), e, ad, (b, L, xs), (fun k => if k = 0 then x0 else if k = 1 then x1 else if k = 2 then x2 else if k = 3 then x3 else x4)), rfl, rfl, ?_, ⟨hD, fun k q hq => ?_⟩, ?_, ?_, ?_, ?_, zstr_ok hts hs, znc_ok hs, hX, hbl, hC, ?_, ?_, hT2, hm0, hm1, ?_, va_Oof hex hx3 hA, ?_, ?_, hT4, ?_⟩
  · intro w hw hk
    rcases zot hk with g | g | ⟨ty, rfl⟩
    · exact va_tabs g rfl (hts w hw)
    · exact word_at (State.WarmedH.refl s) (good_of_word g) (hts w hw)
    · exact hts _ hw
  · match k, hq with
    | 0, hq => cases hq; exact a0
    | 1, hq => cases hq; exact a1
    | 2, hq => cases hq; exact a2
    | 3, hq => cases hq; exact a3
    | 4, hq => cases hq; exact a4
    | 5, hq => cases hq; exact a5
    | k + 6, hq => simp at hq
  · exact va_Zof (hts _ (tw_1 _ (List.mem_of_getElem? (i := 72) (by decide +kernel)))) (hts _ (tw_1 _ (List.mem_of_getElem? (i := 5) (by decide +kernel)))) he hA
  · exact hE
  · exact vx_Zqof (hts _ (tw_2 _ (List.mem_of_getElem? (i := 162) (by decide +kernel)))) (hts _ (tw_1 _ (List.mem_of_getElem? (i := 13) (by decide +kernel)))) (hs _ (List.mem_of_getElem? (i := 8) (by decide +kernel))) hA
  · exact vx_Zqof (hts _ (tw_2 _ (List.mem_of_getElem? (i := 164) (by decide +kernel)))) (hts _ (tw_1 _ (List.mem_of_getElem? (i := 13) (by decide +kernel)))) (hs _ (List.mem_of_getElem? (i := 9) (by decide +kernel))) hA
  · exact va_Zof (hts _ (tw_7 _ (List.mem_of_getElem? (i := 99) (by decide +kernel)))) (hts _ (tw_1 _ (List.mem_of_getElem? (i := 36) (by decide +kernel)))) hx2 hA
  · exact va_Zof (hts _ (tw_7 _ (List.mem_of_getElem? (i := 97) (by decide +kernel)))) (hts _ (tw_1 _ (List.mem_of_getElem? (i := 36) (by decide +kernel)))) (Cond.eq_int (b := .int 127) (hs _ (List.mem_of_getElem? (i := 10) (by decide +kernel))) rfl) hA
  · exact vk_R.of (hts _ (tw_8 _ (List.mem_of_getElem? (i := 64) (by decide +kernel)))) hx3
  · exact vk_OFof hx3 (Cond.eq_int (b := .int 0) (hs _ (List.mem_of_getElem? (i := 939) (by decide +kernel))) rfl) hA
  · exact vk_OFof hx3 hx4 hA
  · exact va_Zof (hts _ (tw_8 _ (List.mem_of_getElem? (i := 78) (by decide +kernel)))) (hts _ (tw_1 _ (List.mem_of_getElem? (i := 31) (by decide +kernel)))) (Cond.eq_int (b := .int 1) (hs _ (List.mem_of_getElem? (i := 20) (by decide +kernel))) rfl) hA
end ZWHOLE
