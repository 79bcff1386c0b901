/-! THE TEXT "bemscd" and String.indexOf over it -/
section ZSTR
variable {Z : zPar} {l : Launch} {d : Nat} {mm mm' : zMeth} {pc n nc ns ix nargs : Nat} {L : List (Nat × Value)} {st st0 As : List Value} {M : zMem} {Q : zO → zMem → Prop}
theorem zCtx.en2 {p : Program} {R : Room} {s : State} {m : MethodId} {meth : Method} {c : Code} (C : zCtx Z l d mm p R s m meth c) : zEn2 Z s s.heap := C.2.2.2.2.2.2.2.2.2.2.2.1.2.2.2.2.2.2
theorem zstr {p : Program} {R : Room} {s : State} {m : MethodId} {meth : Method} {c : Code} {H : Heap} {locs : List Loc} (C : zCtx Z l d mm p R s m meth c) (hS : va_S (zA Z) s.heap H locs) : ∃ cell : Cell, H[zPx Z 3]? = some cell ∧ cell.vm.isStatics = false ∧ s.vm.findClass RJ0 = some cell.cls := by
  obtain ⟨-, -, -, -, -, -, -, -, -, h10, -⟩ := C.en2
  obtain ⟨cell, b1, b2, b3, -⟩ := h10.kept hS.2.1
  exact ⟨cell, b1, b2, b3⟩
/-- a method of a lasting thing that is none of ours -/
theorem zc_VR {b d' mc ms nc1 ns1 : Nat} {Cn : String} {v : Option Value} {M' : zMem} (hd : decode (zMC mm) pc = .ok (.invokevirtual ix, 3)) (hm : zMok mm' nargs) (hw : zwd (.methodLink (zMY mm).cls ix (zMY mm')) ∧ zwd (.instanceMethod (zMY mm')) ∧ zwd (.selects Cn (zMY mm') (zMY mm')))
    (hrecv : ∀ {p : Program} {R : Room} {s : State} {m : MethodId} {meth : Method} {c : Code} {H : Heap} {locs : List Loc}, zCtx Z l d mm p R s m meth c → va_S (zA Z) s.heap H locs → ∃ cell : Cell, H[b]? = some cell ∧ cell.vm.isStatics = false ∧ s.vm.findClass Cn = some cell.cls)
    (hAs : As.length = nargs) (hfit : (lg_sl (.ref b :: As)).length ≤ zML mm') (hst : st.length ≤ 4) (hdd : d' < d) (hc1 : nc1 + mc ≤ nc) (hs1 : ns1 + ms ≤ ns) (hstk : st0 = As.reverse ++ .ref b :: st) (hn : pc + 3 = n)
    (h : zD Z l d' mm' (.ref b :: As) M mc ms v M') (kk : zX Z l d mm n L (v.toList ++ st) M' nc1 ns1 Q) : zX Z l d mm pc L st0 M nc ns Q := by
  subst hn
  intro p e R s m args below meth c H locs cells slots QF ls C hl hM hS hc hs hE
  have hW := C.2.2.2.2.2.2.2.2.2.1
  have hcat := zcat st
  refine zrun (Post := fun o M1 => o = .inl v ∧ M1 = M') (vx_runV (C := Cn) (b := b) (As := As) (rest := st) (Ts := []) (g := F0 m pc ls st0) ⟨C.1, C.2.1, C.2.2.1, C.2.2.2.1, fun w h => nomatch h⟩ (zmet C.2.2.2.2.2.2.2.2.1 hm.1 hm.2.1 hfit ((h _ ⟨rfl, rfl⟩).deep (show d' ≤ d - 1 by omega))) ⟨C.callB args hm (by omega) hw.1, hW.use hw.2.1.1 hw.2.1.2, hW.use hw.2.2.1 hw.2.2.2⟩ ⟨zPre.blind, hrecv C hS, fun U hU hWm => ⟨rfl, C.pre hM hS U hU hWm⟩⟩ rfl hAs hl.1 hstk (by show 2 * 0 + _ ≤ 8; omega) hd ⟨by omega, by omega⟩) hS ?_ ?_
  · intro k M1 ce q H1 locs1 hp hM1 hS1 hce hcv hcl
    exact nomatch hp.1
  · intro v1 M1 H1 locs1 hp hM1 hS1
    obtain ⟨h1, rfl⟩ := hp
    cases h1
    exact kk p e R s m args below meth c H1 locs1 (cells + mc) (slots + ms) QF ls C hl hM1 hS1 (by omega) (by omega) hE
theorem zs_ldcB (hd : decode (zMC mm) pc = .ok (.ldc_w 307, 3)) (hc : (zMY mm).cls = "HatpitchModel") (hn : pc + 3 = n) (k : zX Z l d mm n L (.ref (zPx Z 3) :: st) M nc ns Q) : zX Z l d mm pc L st M nc ns Q := by
  subst hn
  intro p e R s m args below meth c H locs cells slots QF ls C hl hM hS hc hs hE
  intro T hT X
  obtain ⟨t, a1, b1⟩ := k p e R s m args below meth c H locs cells slots QF ls C hl hM hS hc hs hE T hT X
  have hZ := C.en2.2.2.2.2.2.2.2.2.1
  have hown := C.2.2.2.1
  rename_i hcls
  rw [hcls] at hown
  exact ⟨t, X.ldcStringW C.1 hown (text := "bemscd") (a := zPx Z 3) hZ.1 hZ.2 (g := F0 m pc ls st) rfl (by rw [show c.code = zMC mm from C.2.1]; exact hd) t a1, b1⟩
theorem w_J0v : zwd (.fieldLink RJ0 9 RJ0 "value" "[B") := ⟨tw_9 _ (List.mem_of_getElem? (i := 12) (by decide +kernel)), by decide +kernel⟩
theorem w_J0c : zwd (.fieldLink RJ0 15 RJ0 "coder" "B") := ⟨tw_9 _ (List.mem_of_getElem? (i := 11) (by decide +kernel)), by decide +kernel⟩
theorem w_J0s : zwd (.fieldLink RJ0 38 RJ0 "COMPACT_STRINGS" "Z") := ⟨tw_8 _ (List.mem_of_getElem? (i := 77) (by decide +kernel)), by decide +kernel⟩
theorem zs_strV (hd : decode (zMC mm) pc = .ok (.getfield ix, 3)) (hw : zwd (.fieldLink (zMY mm).cls ix RJ0 "value" "[B")) (hn : pc + 3 = n) (k : zX Z l d mm n L (.ref (zPx Z 4) :: st) M nc ns Q) : zX Z l d mm pc L (.ref (zPx Z 3) :: st) M nc ns Q := by
  subst hn
  intro p e R s m args below meth c H locs cells slots QF ls C hl hM hS hc hs hE
  have hW := C.2.2.2.2.2.2.2.2.2.1
  obtain ⟨-, -, -, -, -, -, -, -, -, -, -, h12, -⟩ := C.en2
  exact va_getX (N := 1) (i := 0) (v := fun _ => .ref (zPx Z 4)) (ad := fun _ => zPx Z 3) C.1 C.2.1 (fun i _ => h12) (by decide) hS C.2.2.2.1 (hW.use hw.1 hw.2) (fun _ h => h) hd (k p e R s m args below meth c H locs cells slots QF ls C hl hM hS hc hs hE)
theorem zs_strC (hd : decode (zMC mm) pc = .ok (.getfield ix, 3)) (hw : zwd (.fieldLink (zMY mm).cls ix RJ0 "coder" "B")) (hn : pc + 3 = n) (k : zX Z l d mm n L (.int 0 :: st) M nc ns Q) : zX Z l d mm pc L (.ref (zPx Z 3) :: st) M nc ns Q := by
  subst hn
  intro p e R s m args below meth c H locs cells slots QF ls C hl hM hS hc hs hE
  have hW := C.2.2.2.2.2.2.2.2.2.1
  obtain ⟨-, -, -, -, -, -, -, -, -, -, h11, -⟩ := C.en2
  exact va_getX (N := 1) (i := 0) (v := fun _ => .int 0) (ad := fun _ => zPx Z 3) C.1 C.2.1 (fun i _ => h11) (by decide) hS C.2.2.2.1 (hW.use hw.1 hw.2) (fun _ h => h) hd (k p e R s m args below meth c H locs cells slots QF ls C hl hM hS hc hs hE)
theorem zs_getsS (hd : decode (zMC mm) pc = .ok (.getstatic ix, 3)) (hw : zwd (.fieldLink (zMY mm).cls ix RJ0 "COMPACT_STRINGS" "Z")) (hn : pc + 3 = n) (k : zX Z l d mm n L (.int 1 :: st) M nc ns Q) : zX Z l d mm pc L st M nc ns Q := by
  subst hn
  intro p e R s m args below meth c H locs cells slots QF ls C hl hM hS hc hs hE
  have hW := C.2.2.2.2.2.2.2.2.2.1
  obtain ⟨-, -, -, -, -, -, -, -, -, -, -, -, -, h14⟩ := C.en2
  exact va_gets C.1 C.2.1 h14 hS C.2.2.2.1 (hW.use hw.1 hw.2) (fun _ h => h) hd (k p e R s m args below meth c H locs cells slots QF ls C hl hM hS hc hs hE)
theorem zs_strL (hd : decode (zMC mm) pc = .ok (.arraylength, 1)) (hn : pc + 1 = n) (k : zX Z l d mm n L (.int 6 :: st) M nc ns Q) : zX Z l d mm pc L (.ref (zPx Z 4) :: st) M nc ns Q := by
  subst hn
  intro p e R s m args below meth c H locs cells slots QF ls C hl hM hS hc hs hE
  obtain ⟨-, -, -, -, -, -, -, -, -, -, -, -, h13, -⟩ := C.en2
  exact va_tlen C.1 C.2.1 h13 hS (v := 6) rfl hd (k p e R s m args below meth c H locs cells slots QF ls C hl hM hS hc hs hE)
theorem zs_strB {i : Nat} (hd : decode (zMC mm) pc = .ok (.baload, 1)) (hi : i < 6) (hn : pc + 1 = n) (k : zX Z l d mm n L (.int (zBem i) :: st) M nc ns Q) : zX Z l d mm pc L (.int (nI i) :: .ref (zPx Z 4) :: st) M nc ns Q := by
  subst hn
  intro p e R s m args below meth c H locs cells slots QF ls C hl hM hS hc hs hE
  obtain ⟨-, -, -, -, -, -, -, -, -, -, -, -, h13, -⟩ := C.en2
  exact va_tb C.1 C.2.1 h13 hS (vp_in_nI hi (by decide)) (by rw [nI_clamp (by omega)]) hd (k p e R s m args below meth c H locs cells slots QF ls C hl hM hS hc hs hE)
theorem zs_i2b {x : Int32} (hd : decode (zMC mm) pc = .ok (.i2b, 1)) (hn : pc + 1 = n) (k : zX Z l d mm n L (.int x.toInt8.toInt32 :: st) M nc ns Q) : zX Z l d mm pc L (.int x :: st) M nc ns Q := by
  subst hn
  intro p e R s m args below meth c H locs cells slots QF ls C hl hM hS hc hs hE
  exact lv_i2b C.1 C.2.1 hd rfl (k p e R s m args below meth c H locs cells slots QF ls C hl hM hS hc hs hE)
-- its methods
theorem m_isLatin1 : zD Z l 0 mth_J0_isLatin1_aae02 [.ref (zPx Z 3)] M 0 0 (some (.int 1)) M := by
  intro Q hQ
  show zX Z l 0 mth_J0_isLatin1_aae02 0 [(0, .ref (zPx Z 3))] [] M 0 0 Q
  refine zs_getsS (n := 3) dJ0_isLatin1_aae02_0 w_J0s rfl ?_
  refine zs_if_eq (tgt := 17) (n := 6) dJ0_isLatin1_aae02_3 (by decide) rfl (fun h => absurd h (by decide)) (fun _ => ?_)
  refine zs_aload_n (n := 7) dJ0_isLatin1_aae02_6 rfl rfl ?_
  refine zs_strC (n := 10) dJ0_isLatin1_aae02_7 w_J0c rfl ?_
  refine zs_if_ne (tgt := 17) (n := 13) dJ0_isLatin1_aae02_10 (by decide) rfl (fun h => absurd rfl h) (fun _ => ?_)
  refine zs_iconst (v := 1) (n := 14) dJ0_isLatin1_aae02_13 (by decide) rfl ?_
  refine zs_goto (tgt := 18) dJ0_isLatin1_aae02_14 (by decide) ?_
  refine zs_ireturn dJ0_isLatin1_aae02_18 ⟨_, rfl, rfl⟩ ?_
  exact hQ
theorem m_coder : zD Z l 0 mth_J0_coder_7d493 [.ref (zPx Z 3)] M 0 0 (some (.int 0)) M := by
  intro Q hQ
  show zX Z l 0 mth_J0_coder_7d493 0 [(0, .ref (zPx Z 3))] [] M 0 0 Q
  refine zs_getsS (n := 3) dJ0_coder_7d493_0 w_J0s rfl ?_
  refine zs_if_eq (tgt := 13) (n := 6) dJ0_coder_7d493_3 (by decide) rfl (fun h => absurd h (by decide)) (fun _ => ?_)
  refine zs_aload_n (n := 7) dJ0_coder_7d493_6 rfl rfl ?_
  refine zs_strC (n := 10) dJ0_coder_7d493_7 w_J0c rfl ?_
  refine zs_goto (tgt := 14) dJ0_coder_7d493_10 (by decide) ?_
  refine zs_ireturn dJ0_coder_7d493_14 ⟨_, rfl, rfl⟩ ?_
  exact hQ
theorem m_strlen : zD Z l 1 mth_J0_length_8abf5 [.ref (zPx Z 3)] M 0 0 (some (.int 6)) M := by
  intro Q hQ
  show zX Z l 1 mth_J0_length_8abf5 0 [(0, .ref (zPx Z 3))] [] M 0 0 Q
  refine zs_aload_n (n := 1) dJ0_length_8abf5_0 rfl rfl ?_
  refine zs_strV (n := 4) dJ0_length_8abf5_1 w_J0v rfl ?_
  refine zs_strL (n := 5) dJ0_length_8abf5_4 rfl ?_
  refine zs_aload_n (n := 6) dJ0_length_8abf5_5 rfl rfl ?_
  refine zc_VR (d' := 0) (As := []) (mc := 0) (ms := 0) (n := 9) dJ0_length_8abf5_6 ok_J0_coder_7d493 ⟨ml_J0_335, im_J0_coder_7d493, sl_J0_coder_7d493⟩ (fun C hS => zstr C hS) rfl (Nat.le_of_ble_eq_true rfl) (by simp) (by omega) (Nat.le_refl _) (Nat.le_refl _) rfl rfl (m_coder) ?_
  refine zs_ishr (n := 10) dJ0_length_8abf5_9 rfl ?_
  refine zs_ireturn dJ0_length_8abf5_10 ⟨_, rfl, rfl⟩ ?_
  exact hQ
theorem m_canEncode {x : Int32} : zD Z l 0 mth_J1_canEncode_9a6ad [.int x] M 0 0 (some (.int (zb (decide (¬ x < 0 ∧ ¬ 255 < x))))) M := by
  intro Q hQ
  show zX Z l 0 mth_J1_canEncode_9a6ad 0 [(0, .int x)] [] M 0 0 Q
  refine zs_iload_n (n := 1) dJ1_canEncode_9a6ad_0 rfl rfl ?_
  refine zs_if_lt (tgt := 15) (n := 4) dJ1_canEncode_9a6ad_1 (by decide) rfl (fun h1 => ?_) (fun h1 => ?_)
  · refine zs_iconst (v := 0) (n := 16) dJ1_canEncode_9a6ad_15 (by decide) rfl ?_
    refine zs_ireturn dJ1_canEncode_9a6ad_16 ⟨_, rfl, rfl⟩ ?_
    first
    | (rw [decide_eq_true (p := ¬ x < 0 ∧ ¬ 255 < x) ⟨h1, h8⟩] at hQ; exact hQ)
    | (rw [decide_eq_false (p := ¬ x < 0 ∧ ¬ 255 < x) (fun h => h.1 h1)] at hQ; exact hQ)
    | (rw [decide_eq_false (p := ¬ x < 0 ∧ ¬ 255 < x) (fun h => h.2 h8)] at hQ; exact hQ)
  · refine zs_iload_n (n := 5) dJ1_canEncode_9a6ad_4 rfl rfl ?_
    refine zs_sipush (v := 255) (n := 8) dJ1_canEncode_9a6ad_5 (by decide) rfl ?_
    refine zs_icmp_gt (tgt := 15) (n := 11) dJ1_canEncode_9a6ad_8 (by decide) rfl (fun h8 => ?_) (fun h8 => ?_)
    · refine zs_iconst (v := 0) (n := 16) dJ1_canEncode_9a6ad_15 (by decide) rfl ?_
      refine zs_ireturn dJ1_canEncode_9a6ad_16 ⟨_, rfl, rfl⟩ ?_
      first
      | (rw [decide_eq_true (p := ¬ x < 0 ∧ ¬ 255 < x) ⟨h1, h8⟩] at hQ; exact hQ)
      | (rw [decide_eq_false (p := ¬ x < 0 ∧ ¬ 255 < x) (fun h => h.1 h1)] at hQ; exact hQ)
      | (rw [decide_eq_false (p := ¬ x < 0 ∧ ¬ 255 < x) (fun h => h.2 h8)] at hQ; exact hQ)
    · refine zs_iconst (v := 1) (n := 12) dJ1_canEncode_9a6ad_11 (by decide) rfl ?_
      refine zs_goto (tgt := 16) dJ1_canEncode_9a6ad_12 (by decide) ?_
      refine zs_ireturn dJ1_canEncode_9a6ad_16 ⟨_, rfl, rfl⟩ ?_
      first
      | (rw [decide_eq_true (p := ¬ x < 0 ∧ ¬ 255 < x) ⟨h1, h8⟩] at hQ; exact hQ)
      | (rw [decide_eq_false (p := ¬ x < 0 ∧ ¬ 255 < x) (fun h => h.1 h1)] at hQ; exact hQ)
      | (rw [decide_eq_false (p := ¬ x < 0 ∧ ¬ 255 < x) (fun h => h.2 h8)] at hQ; exact hQ)
/-- where x stands in the text: at 6 for nowhere -/
def fBem (x : Int32) : Nat := zfst (fun i => decide (zBem i = x.toInt8.toInt32)) 6
def fBemI (x : Int32) : Int32 := if fBem x < 6 then nI (fBem x) else -1

theorem m_indexOfChar {x : Int32} : zD Z l 0 mth_J1_indexOfChar_4cfef [.ref (zPx Z 4), .int x, .int 0, .int 6] M 0 0 (some (.int (fBemI x))) M := by
  intro Q hQ
  show zX Z l 0 mth_J1_indexOfChar_4cfef 0 [(0, .ref (zPx Z 4)), (1, .int x), (2, .int 0), (3, .int 6)] [] M 0 0 Q
  refine zs_iload_n (n := 1) dJ1_indexOfChar_4cfef_0 rfl rfl ?_
  refine zs_i2b (n := 2) dJ1_indexOfChar_4cfef_1 rfl ?_
  refine zs_istore (n := 4) dJ1_indexOfChar_4cfef_2 (by decide) rfl ?_
  refine zs_iload_n (n := 5) dJ1_indexOfChar_4cfef_4 rfl rfl ?_
  refine zs_istore (n := 7) dJ1_indexOfChar_4cfef_5 (by decide) rfl ?_
  refine zX.sub (L' := [(0, .ref (zPx Z 4)), (1, .int x), (2, .int 0), (3, .int 6), (4, .int x.toInt8.toInt32), (5, .int (nI 0))]) ⟨rfl, rfl, rfl, rfl, rfl, rfl, trivial⟩ ?_
  refine zloop (n := 6) (X := fun j => j ≤ fBem x → zX Z l 0 mth_J1_indexOfChar_4cfef 7 [(0, .ref (zPx Z 4)), (1, .int x), (2, .int 0), (3, .int 6), (4, .int x.toInt8.toInt32), (5, .int (nI j))] [] M 0 0 Q) (fun j hj ih => ?_) ?_ 0 (Nat.zero_le _) (Nat.zero_le _)
  · intro hle
    refine zs_iload (n := 9) dJ1_indexOfChar_4cfef_7 rfl rfl ?_
    refine zs_iload_n (n := 10) dJ1_indexOfChar_4cfef_9 rfl rfl ?_
    refine zs_icmp_ge (tgt := 31) (n := 13) dJ1_indexOfChar_4cfef_10 (by decide) rfl (fun h => absurd h (nI_ge (b := 6) hj (by decide))) (fun _ => ?_)
    refine zs_aload_n (n := 14) dJ1_indexOfChar_4cfef_13 rfl rfl ?_
    refine zs_iload (n := 16) dJ1_indexOfChar_4cfef_14 rfl rfl ?_
    refine zs_strB (n := 17) dJ1_indexOfChar_4cfef_16 hj rfl ?_
    refine zs_iload (n := 19) dJ1_indexOfChar_4cfef_17 rfl rfl ?_
    refine zs_icmp_ne (tgt := 25) (n := 22) dJ1_indexOfChar_4cfef_19 (by decide) rfl (fun h => ?_) (fun h => ?_)
    · refine zs_iinc (v := nI (j + 1)) (n := 28) dJ1_indexOfChar_4cfef_25 rfl (nI_1 _) (by decide) rfl ?_
      refine zs_goto (tgt := 7) dJ1_indexOfChar_4cfef_28 (by decide) ?_
      refine zX.sub (L' := [(0, .ref (zPx Z 4)), (1, .int x), (2, .int 0), (3, .int 6), (4, .int x.toInt8.toInt32), (5, .int (nI (j + 1)))]) ⟨rfl, rfl, rfl, rfl, rfl, rfl, trivial⟩ ?_
      refine ih ?_
      refine Nat.lt_of_le_of_ne hle (fun e => ?_)
      have := zfst_yes (p := fun i => decide (zBem i = x.toInt8.toInt32)) (n := 6) (show fBem x < 6 by omega)
      exact h (of_decide_eq_true (e ▸ this))
    · refine zs_iload (n := 24) dJ1_indexOfChar_4cfef_22 rfl rfl ?_
      refine zs_ireturn dJ1_indexOfChar_4cfef_24 ⟨_, rfl, rfl⟩ ?_
      have e : fBem x = j := by
        refine Nat.le_antisymm ?_ hle
        refine Nat.le_of_not_lt (fun h9 => ?_)
        have := zfst_no (p := fun i => decide (zBem i = x.toInt8.toInt32)) (n := 6) h9
        exact absurd (decide_eq_true h) (by rw [this]; decide)
      unfold fBemI at hQ
      rw [e, if_pos hj] at hQ
      exact hQ
  · intro hle
    refine zs_iload (n := 9) dJ1_indexOfChar_4cfef_7 rfl rfl ?_
    refine zs_iload_n (n := 10) dJ1_indexOfChar_4cfef_9 rfl rfl ?_
    refine zs_icmp_ge (tgt := 31) (n := 13) dJ1_indexOfChar_4cfef_10 (by decide) rfl (fun _ => ?_) (fun h => absurd (by decide) h)
    refine zs_iconst (v := -1) (n := 32) dJ1_indexOfChar_4cfef_31 (by decide) rfl ?_
    refine zs_ireturn dJ1_indexOfChar_4cfef_32 ⟨_, rfl, rfl⟩ ?_
    unfold fBemI at hQ
    rw [if_neg (by omega)] at hQ
    exact hQ
/-- String.indexOf -/
def fIdx (x : Int32) : Int32 := if ¬ x < 0 ∧ ¬ 255 < x then fBemI x else -1
theorem w_J1a : zMath RJ1 92 Lib.Math.max.name Lib.Math.max.code 2 := ⟨ml_J1_92, w_max.2.1, w_max.2.2.1, w_max.2.2.2⟩
theorem w_J1b : zMath RJ1 38 Lib.Math.min.name Lib.Math.min.code 2 := ⟨ml_J1_38, ⟨tw_3 _ (List.mem_of_getElem? (i := 111) (by decide +kernel)), by decide +kernel⟩, w_max.2.2.1, ⟨tw_3 _ (List.mem_of_getElem? (i := 112) (by decide +kernel)), by decide +kernel⟩⟩
theorem m_L1indexOf {x : Int32} : zD Z l 1 mth_J1_indexOf_4cfef [.ref (zPx Z 4), .int x, .int 0, .int 6] M 0 0 (some (.int (fIdx x))) M := by
  intro Q hQ
  show zX Z l 1 mth_J1_indexOf_4cfef 0 [(0, .ref (zPx Z 4)), (1, .int x), (2, .int 0), (3, .int 6)] [] M 0 0 Q
  unfold fIdx at hQ
  refine zs_iload_n (n := 1) dJ1_indexOf_4cfef_0 rfl rfl ?_
  refine zc_S (d' := 0) (As := [.int x]) (mc := 0) (ms := 0) (n := 4) dJ1_indexOf_4cfef_1 ok_J1_canEncode_9a6ad ⟨ml_J1_88, st_J1_canEncode_9a6ad⟩ rfl (Nat.le_of_ble_eq_true rfl) (by simp) (by omega) (Nat.le_refl _) (Nat.le_refl _) rfl rfl (m_canEncode) ?_
  refine zs_if_ne (tgt := 9) (n := 7) dJ1_indexOf_4cfef_4 (by decide) rfl (fun h4 => ?_) (fun h4 => ?_)
  · refine zs_iload_n (n := 10) dJ1_indexOf_4cfef_9 rfl rfl ?_
    refine zs_iconst (v := 0) (n := 11) dJ1_indexOf_4cfef_10 (by decide) rfl ?_
    refine zs_max (n := 14) dJ1_indexOf_4cfef_11 w_J1a (by simp) rfl ?_
    rw [if_neg (by decide)]
    refine zs_istore_n (n := 15) dJ1_indexOf_4cfef_14 (by decide) rfl ?_
    refine zs_iload_n (n := 16) dJ1_indexOf_4cfef_15 rfl rfl ?_
    refine zs_aload_n (n := 17) dJ1_indexOf_4cfef_16 rfl rfl ?_
    refine zs_strL (n := 18) dJ1_indexOf_4cfef_17 rfl ?_
    refine zs_min (n := 21) dJ1_indexOf_4cfef_18 w_J1b (by simp) rfl ?_
    rw [if_neg (by decide)]
    refine zs_istore_n (n := 22) dJ1_indexOf_4cfef_21 (by decide) rfl ?_
    refine zs_iload_n (n := 23) dJ1_indexOf_4cfef_22 rfl rfl ?_
    refine zs_iload_n (n := 24) dJ1_indexOf_4cfef_23 rfl rfl ?_
    refine zs_icmp_lt (tgt := 29) (n := 27) dJ1_indexOf_4cfef_24 (by decide) rfl (fun _ => ?_) (fun h => absurd (by decide) h)
    refine zs_aload_n (n := 30) dJ1_indexOf_4cfef_29 rfl rfl ?_
    refine zs_iload_n (n := 31) dJ1_indexOf_4cfef_30 rfl rfl ?_
    refine zs_iload_n (n := 32) dJ1_indexOf_4cfef_31 rfl rfl ?_
    refine zs_iload_n (n := 33) dJ1_indexOf_4cfef_32 rfl rfl ?_
    refine zc_S (d' := 0) (As := [.ref (zPx Z 4), .int x, .int 0, .int 6]) (mc := 0) (ms := 0) (n := 36) dJ1_indexOf_4cfef_33 ok_J1_indexOfChar_4cfef ⟨ml_J1_95, st_J1_indexOfChar_4cfef⟩ rfl (Nat.le_of_ble_eq_true rfl) (by simp) (by omega) (Nat.le_refl _) (Nat.le_refl _) rfl rfl (m_indexOfChar) ?_
    refine zs_ireturn dJ1_indexOf_4cfef_36 ⟨_, rfl, rfl⟩ ?_
    rw [if_pos (of_decide_eq_true (zb1.mp h4))] at hQ
    exact hQ
  · refine zs_iconst (v := -1) (n := 8) dJ1_indexOf_4cfef_7 (by decide) rfl ?_
    refine zs_ireturn dJ1_indexOf_4cfef_8 ⟨_, rfl, rfl⟩ ?_
    rw [if_neg (of_decide_eq_false (zb0.mp h4))] at hQ
    exact hQ
theorem m_indexOf2 {x : Int32} : zD Z l 2 mth_J0_indexOf_7cf53 [.ref (zPx Z 3), .int x, .int 0] M 0 0 (some (.int (fIdx x))) M := by
  intro Q hQ
  show zX Z l 2 mth_J0_indexOf_7cf53 0 [(0, .ref (zPx Z 3)), (1, .int x), (2, .int 0)] [] M 0 0 Q
  refine zs_aload_n (n := 1) dJ0_indexOf_7cf53_0 rfl rfl ?_
  refine zc_VR (d' := 0) (As := []) (mc := 0) (ms := 0) (n := 4) dJ0_indexOf_7cf53_1 ok_J0_isLatin1_aae02 ⟨ml_J0_492, im_J0_isLatin1_aae02, sl_J0_isLatin1_aae02⟩ (fun C hS => zstr C hS) rfl (Nat.le_of_ble_eq_true rfl) (by simp) (by omega) (Nat.le_refl _) (Nat.le_refl _) rfl rfl (m_isLatin1) ?_
  refine zs_if_eq (tgt := 23) (n := 7) dJ0_indexOf_7cf53_4 (by decide) rfl (fun h => absurd h (by decide)) (fun _ => ?_)
  refine zs_aload_n (n := 8) dJ0_indexOf_7cf53_7 rfl rfl ?_
  refine zs_strV (n := 11) dJ0_indexOf_7cf53_8 w_J0v rfl ?_
  refine zs_iload_n (n := 12) dJ0_indexOf_7cf53_11 rfl rfl ?_
  refine zs_iload_n (n := 13) dJ0_indexOf_7cf53_12 rfl rfl ?_
  refine zs_aload_n (n := 14) dJ0_indexOf_7cf53_13 rfl rfl ?_
  refine zc_VR (d' := 1) (As := []) (mc := 0) (ms := 0) (n := 17) dJ0_indexOf_7cf53_14 ok_J0_length_8abf5 ⟨ml_J0_505, im_J0_length_8abf5, sl_J0_length_8abf5⟩ (fun C hS => zstr C hS) rfl (Nat.le_of_ble_eq_true rfl) (by simp) (by omega) (Nat.le_refl _) (Nat.le_refl _) rfl rfl (m_strlen) ?_
  refine zc_S (d' := 1) (As := [.ref (zPx Z 4), .int x, .int 0, .int 6]) (mc := 0) (ms := 0) (n := 20) dJ0_indexOf_7cf53_17 ok_J1_indexOf_4cfef ⟨ml_J0_637, st_J1_indexOf_4cfef⟩ rfl (Nat.le_of_ble_eq_true rfl) (by simp) (by omega) (Nat.le_refl _) (Nat.le_refl _) rfl rfl (m_L1indexOf) ?_
  refine zs_goto (tgt := 36) dJ0_indexOf_7cf53_20 (by decide) ?_
  refine zs_ireturn dJ0_indexOf_7cf53_36 ⟨_, rfl, rfl⟩ ?_
  exact hQ
theorem m_indexOf1 {x : Int32} : zD Z l 3 mth_J0_indexOf_0f7a4 [.ref (zPx Z 3), .int x] M 0 0 (some (.int (fIdx x))) M := by
  intro Q hQ
  show zX Z l 3 mth_J0_indexOf_0f7a4 0 [(0, .ref (zPx Z 3)), (1, .int x)] [] M 0 0 Q
  refine zs_aload_n (n := 1) dJ0_indexOf_0f7a4_0 rfl rfl ?_
  refine zs_iload_n (n := 2) dJ0_indexOf_0f7a4_1 rfl rfl ?_
  refine zs_iconst (v := 0) (n := 3) dJ0_indexOf_0f7a4_2 (by decide) rfl ?_
  refine zc_VR (d' := 2) (As := [.int x, .int 0]) (mc := 0) (ms := 0) (n := 6) dJ0_indexOf_0f7a4_3 ok_J0_indexOf_7cf53 ⟨ml_J0_633, im_J0_indexOf_7cf53, sl_J0_indexOf_7cf53⟩ (fun C hS => zstr C hS) rfl (Nat.le_of_ble_eq_true rfl) (by simp) (by omega) (Nat.le_refl _) (Nat.le_refl _) rfl rfl (m_indexOf2) ?_
  refine zs_ireturn dJ0_indexOf_0f7a4_6 ⟨_, rfl, rfl⟩ ?_
  exact hQ
theorem zc_indexOf {x : Int32} (hd : decode (zMC mm) pc = .ok (.invokevirtual ix, 3)) (hw : zwd (.methodLink (zMY mm).cls ix yJ0_indexOf_0f7a4)) (hst : st.length ≤ 4) (hdd : 3 < d) (hn : pc + 3 = n) (kk : zX Z l d mm n L (.int (fIdx x) :: st) M nc ns Q) : zX Z l d mm pc L (.int x :: .ref (zPx Z 3) :: st) M nc ns Q :=
  zc_VR (As := [.int x]) (mc := 0) (ms := 0) hd ok_J0_indexOf_0f7a4 ⟨hw, im_J0_indexOf_0f7a4, sl_J0_indexOf_0f7a4⟩ (fun C hS => zstr C hS) rfl (Nat.le_of_ble_eq_true rfl) hst hdd (Nat.le_refl _) (Nat.le_refl _) rfl hn m_indexOf1 kk
end ZSTR
