/-! ===== find, pick, sums and meetings of guesses ===== -/
def gdI (I : Nat → Nat → Int32) (fr : Nat → Bool) (ln : Nat → Nat) (i : Nat) : List Nat × Nat × Nat := gsT (fun j => I 6 j) (fun j => fr j && decide (I 3 j = 2) && decide (I 4 j = I 4 i)) (ln i - 1) [i] i 0 0
def pgI (I : Nat → Nat → Int32) (fr : Nat → Bool) (ln : Nat → Nat) (i : Nat) : List Nat := (gdI I fr ln i).1
def gscI (I : Nat → Nat → Int32) (fr : Nat → Bool) (ln : Nat → Nat) (z i : Nat) : Int32 := scI (gdI I fr ln i).2.1 (gdI I fr ln i).2.2 (nI (ln i) - nI (pgI I fr ln i).length) (jwI I z (nI i) (I 4 i)).isSome
def fpI (I : Nat → Nat → Int32) (fr : Nat → Bool) (i : Nat) : Bool := fr i && decide (I 3 i = 1)
/-- what the guesses look at -/
def gsame (I I' : Nat → Nat → Int32) : Prop := I' 3 = I 3 ∧ I' 4 = I 4 ∧ I' 5 = I 5 ∧ I' 6 = I 6 ∧ I' 9 = I 9 ∧ I' 10 = I 10 ∧ I' 11 = I 11 ∧ I' 12 = I 12
theorem gsame.gd {I I' : Nat → Nat → Int32} (h : gsame I I') : gdI I' = gdI I := by
  obtain ⟨h3, h4, h5, h6, h9, h10, h11, h12⟩ := h
  funext fr ln i
  unfold gdI
  rw [h3, h4, h6]
theorem gsame.jw {I I' : Nat → Nat → Int32} (h : gsame I I') : jwI I' = jwI I := by
  obtain ⟨h3, h4, h5, h6, h9, h10, h11, h12⟩ := h
  funext z f s
  unfold jwI
  rw [h11, h12]
theorem gsame.nm {I I' : Nat → Nat → Int32} (h : gsame I I') : nmI I' = nmI I := by
  have hj := h.jw
  obtain ⟨h3, h4, h5, h6, h9, h10, h11, h12⟩ := h
  funext z f s
  unfold nmI jsI
  rw [hj, h10, h12]
theorem gsame.of {I I' : Nat → Nat → Int32} (h : ∀ a, a < 13 ∨ 19 < a → I' a = I a) : gsame I I' := ⟨h 3 (by omega), h 4 (by omega), h 5 (by omega), h 6 (by omega), h 9 (by omega), h 10 (by omega), h 11 (by omega), h 12 (by omega)⟩
theorem gsL_len (sc : Nat → Int32) (P : Nat → Bool) : ∀ n, (gsL sc P n).length = cntB P n
  | 0 => rfl
  | n + 1 => by
    simp only [gsL, cntB]
    split
    · rw [insG_len, gsL_len sc P n]
    · rw [gsL_len sc P n]; rfl
theorem insG_mem {sc : Nat → Int32} {x y : Nat} : ∀ {l : List Nat}, y ∈ insG sc x l ↔ y = x ∨ y ∈ l
  | [] => by simp [insG]
  | z :: l => by
    simp only [insG]
    split
    · simp
    · simp only [List.mem_cons, insG_mem (l := l)]
      constructor
      · rintro (h | h | h)
        · exact Or.inr (Or.inl h)
        · exact Or.inl h
        · exact Or.inr (Or.inr h)
      · rintro (h | h | h)
        · exact Or.inr (Or.inl h)
        · exact Or.inl h
        · exact Or.inr (Or.inr h)
theorem gsL_mem {sc : Nat → Int32} {P : Nat → Bool} {y : Nat} : ∀ {n : Nat}, y ∈ gsL sc P n ↔ y < n ∧ P y = true
  | 0 => by simp [gsL]
  | n + 1 => by
    have ih := gsL_mem (sc := sc) (P := P) (y := y) (n := n)
    simp only [gsL]
    by_cases h : P n = true
    · rw [if_pos h, insG_mem, ih]
      constructor
      · rintro (h1 | ⟨h1, h2⟩)
        · subst h1; exact ⟨by omega, h⟩
        · exact ⟨by omega, h2⟩
      · rintro ⟨h1, h2⟩
        by_cases e : y = n
        · exact Or.inl e
        · exact Or.inr ⟨by omega, h2⟩
    · rw [if_neg h, ih]
      constructor
      · rintro ⟨h1, h2⟩; exact ⟨by omega, h2⟩
      · rintro ⟨h1, h2⟩
        by_cases e : y = n
        · subst e; exact absurd h2 h
        · exact ⟨by omega, h2⟩
/-- all first pages that are looked at tell a length -/
def lnOK (I : Nat → Nat → Int32) (fr : Nat → Bool) (ln : Nat → Nat) : Prop := ∀ i, i < 40 → fr i = true → I 3 i = 1 → I 5 i = nI (ln i) ∧ 1 ≤ ln i ∧ ln i ≤ 12
/-- the guesses are found -/
def fnd (I I' : Nat → Nat → Int32) (J J' : Nat → Nat → Int64) (F : Int64) (fr : Nat → Bool) (ln : Nat → Nat) (z n : Nat) : Prop :=
  gOK I' J' (gscI I fr ln z) (pgI I fr ln) (gsL (gscI I fr ln z) (fpI I fr) n) ∧ srt (gscI I fr ln z) (gsL (gscI I fr ln z) (fpI I fr) n) ∧ J' 13 5 = F ∧ gfr I I' J J'
theorem getD_mem {l : List Nat} {k : Nat} (h : k < l.length) : l.getD k 0 ∈ l := by
  rw [List.getD_eq_getElem?_getD, List.getElem?_eq_getElem h]
  exact List.getElem_mem h
section T26
variable {d L : Nat} {I : Nat → Nat → Int32} {J : Nat → Nat → Int64} {p : Nat → Nat} {Q : Option Value → am_M → Prop}
theorem lp_find (hd : 4 ≤ d) {F : Int64} {fr : Nat → Bool} {ln : Nat → Nat} {z : Nat} (hz : I 9 3 = nI z) (hz6 : z ≤ 6) (hF : ∀ j, j < 64 → bl F j = fr j) (hln : lnOK I fr ln)
    (h : ∀ I' J', fnd I I' J J' F fr ln z 40 → Q none (I', J', KR p)) : ∀ (n i : Nat) (I1 : Nat → Nat → Int32) (J1 : Nat → Nat → Int64), i + n = 40 → fnd I I1 J J1 F fr ln z i → E me_X2_find d L 13 [some (.ref 13), some (.ref 2), some (.long F), none, some (.int (nI i))] [] I1 J1 p Q
  | 0, i, I1, J1, hi, hf => by
    refine ev_iload (pc := 13) dX2_find_13 rfl (ev_bipush (pc := 15) (v := (40)) dX2_find_15 bipush_c40 (ev_ncmp_ge (pc := 17) 98 (i) (40) dX2_find_17 (by decide) (rfl) (rfl) (by omega) (by omega) (kf := fun c => absurd c (by omega)) (kt := fun c17 => ev_vret (pc := 98) dX2_find_98 rfl ?_)))
    have e : i = 40 := by omega
    subst e
    exact h I1 J1 hf
  | n + 1, i, I1, J1, hi, hf => by
    obtain ⟨f1, f2, f3, f4, f5⟩ := hf
    have hs := gsame.of f4
    have hs' := hs
    obtain ⟨e3, e4, e5, e6, e9, e10, e11, e12⟩ := hs
    have hll : (gsL (gscI I fr ln z) (fpI I fr) i).length ≤ i := by rw [gsL_len]; exact cntB_le _ _
    have skip : ¬ (fpI I fr i = true) → E me_X2_find d L 92 [some (.ref 13), some (.ref 2), some (.long F), none, some (.int (nI i))] [] I1 J1 p Q := by
      intro hp
      refine ev_iinc (pc := 92) dX2_find_92 rfl (iinc_1 _) rfl (ev_goto (pc := 95) 13 dX2_find_95 (by decide) (?_))
      refine lp_find hd hz hz6 hF hln h n (i + 1) I1 J1 (by omega) ?_
      have e : gsL (gscI I fr ln z) (fpI I fr) (i + 1) = gsL (gscI I fr ln z) (fpI I fr) i := by simp only [gsL]; rw [if_neg hp]
      unfold fnd
      rw [e]
      exact ⟨f1, f2, f3, f4, f5⟩
    refine ev_iload (pc := 13) dX2_find_13 rfl (ev_bipush (pc := 15) (v := (40)) dX2_find_15 bipush_c40 (ev_ncmp_ge (pc := 17) 98 (i) (40) dX2_find_17 (by decide) (rfl) (rfl) (by omega) (by omega) (kt := fun c => absurd c (by omega)) (kf := fun c17 => ev_aload_n (pc := 20) dX2_find_20 rfl (ev_getl (pc := 21) kF_2_32 dX2_find_21 rfl rfl (?_)))))
    rw [f3]
    refine ev_iload (pc := 24) dX2_find_24 rfl (ev_lshr (pc := 26) dX2_find_26 (ev_lconst (pc := 27) (v := 1) dX2_find_27 rfl (ev_land (pc := 28) dX2_find_28 (ev_lconst (pc := 29) (v := 0) dX2_find_29 rfl (ev_lcmp (pc := 30) dX2_find_30 (ev_if_eq (pc := 31) 92 dX2_find_31 (by decide) (fun c31 => ?_) (fun c31 => ?_)))))))
    · have c := (bl_test (p := i) (by omega)).mp c31
      rw [hF i (by omega)] at c
      exact skip (by simp [fpI, c])
    · have c : bl F i = true := by
        cases hb : bl F i
        · exact absurd ((bl_test (p := i) (by omega)).mpr hb) c31
        · rfl
      rw [hF i (by omega)] at c
      refine ev_aload_n (pc := 34) dX2_find_34 rfl (ev_getr (pc := 35) kF_2_40 dX2_find_35 rfl rfl rfl (ev_iload (pc := 38) dX2_find_38 rfl (ev_iald (pc := 40) (i := i) dX2_find_40 rfl (rfl) (by omega) rfl (ev_iconst (pc := 41) (v := (1)) dX2_find_41 iconst_c1 (ev_icmp_ne (pc := 42) 92 dX2_find_42 (by decide) (fun c42 => ?_) (fun c42 => ?_))))))
      · rw [e3] at c42
        exact skip (by simp [fpI, c42])
      · rw [e3] at c42
        obtain ⟨l1, l2, l3⟩ := hln i (by omega) c c42
        refine ev_aload_n (pc := 45) dX2_find_45 rfl (ev_getr (pc := 46) kF_2_12 dX2_find_46 rfl rfl rfl (ev_aload_n (pc := 49) dX2_find_49 rfl (ev_aload_n (pc := 50) dX2_find_50 rfl (ev_getl (pc := 51) kF_2_32 dX2_find_51 rfl rfl (?_)))))
        rw [f3]
        refine ev_iload (pc := 54) dX2_find_54 rfl (ev_invV (pc := 56) kV_2_45 dX2_find_56 rfl rfl rfl (by omega) rfl ?_)
        refine t_trace (len := ln i) (by omega) (by omega) (by rw [e3]; exact c42) (by rw [e5]; exact l1) l2 l3 hF c fun I2 J2 ht => ?_
        have ht' : trC I1 I2 J1 J2 (I 4 i) (ln i) (gdI I fr ln i) := by
          have := ht
          unfold gdI
          rw [e3, e4, e6] at this
          exact this
        obtain ⟨t1, t2, t3, t4, t5, t6, t7, t8⟩ := ht'
        refine ev_aload_n (pc := 59) dX2_find_59 rfl (ev_getr (pc := 60) kF_2_12 dX2_find_60 rfl rfl rfl (ev_aload_n (pc := 63) dX2_find_63 rfl (ev_getr (pc := 64) kF_2_49 dX2_find_64 rfl rfl rfl (ev_iload (pc := 67) dX2_find_67 rfl (ev_invV (pc := 69) kV_2_53 dX2_find_69 rfl rfl rfl (by omega) rfl ?_)))))
        refine t_rate (z := z) (by omega) (nI i) (by rw [t6 9 (by omega), e9, hz]) hz6 t2 t3 t4 t5 ?_
        have hjw : jwI I2 z (nI i) (I 4 i) = jwI I z (nI i) (I 4 i) := by
          rw [← hs'.jw]
          unfold jwI
          rw [t6 11 (by omega), t6 12 (by omega)]
        rw [hjw]
        refine ev_aload_n (pc := 72) dX2_find_72 rfl (ev_iload (pc := 73) dX2_find_73 rfl (ev_aload_n (pc := 75) dX2_find_75 rfl (ev_getr (pc := 76) kF_2_12 dX2_find_76 rfl rfl rfl (ev_geti (pc := 79) kF_2_57 dX2_find_79 rfl rfl (ev_aload_n (pc := 82) dX2_find_82 rfl (ev_getr (pc := 83) kF_2_12 dX2_find_83 rfl rfl rfl (ev_getl (pc := 86) kF_2_60 dX2_find_86 rfl rfl (?_))))))))
        have esc : ui (ui I2 14 7 (scI (gdI I fr ln i).2.1 (gdI I fr ln i).2.2 (nI (ln i) - nI (gdI I fr ln i).1.length) (jwI I z (nI i) (I 4 i)).isSome)) 14 3 (nmI I2 z (nI i) (I 4 i)) 14 7 = gscI I fr ln z i := by
          simp [ui, gscI, pgI]
        rw [esc]
        refine ev_invV (pc := 89) kV_2_63 dX2_find_89 rfl rfl rfl (by omega) rfl ?_
        refine t_insert (sc := gscI I fr ln z) (pg := pgI I fr ln) (l := gsL (gscI I fr ln z) (fpI I fr) i) (by omega) ?_ f2 (fun j hj => t7 j hj) fun I3 J3 g1 g2 g3 g4 g5 => ?_
        · refine ⟨?_, fun k hk => ?_⟩
          · rw [← f1.1, ← t6 13 (by omega)]
            simp [ui]
          · obtain ⟨o1, o2, o3⟩ := f1.2 k hk
            refine ⟨?_, ?_, fun j hj => ?_⟩
            · rw [← o1, ← t6 17 (by omega)]; simp [ui]
            · rw [← o2, ← t6 18 (by omega)]; simp [ui]
            · rw [← o3 j hj, t8 19 (by decide)]
        · refine ev_iinc (pc := 92) dX2_find_92 rfl (iinc_1 _) rfl (ev_goto (pc := 95) 13 dX2_find_95 (by decide) (?_))
          refine lp_find hd hz hz6 hF hln h n (i + 1) I3 J3 (by omega) ?_
          have e : gsL (gscI I fr ln z) (fpI I fr) (i + 1) = insG (gscI I fr ln z) i (gsL (gscI I fr ln z) (fpI I fr) i) := by
            simp only [gsL]
            rw [if_pos (by simp [fpI, c, c42])]
          unfold fnd
          rw [e]
          refine ⟨g1, g2, ?_, fun a ha => ?_, fun a ha => ?_⟩
          · rw [g5 13 (by decide), t8 13 (by decide), f3]
          · rw [g3 a (by omega) (by omega) (by omega)]
            rw [← f4 a ha, ← t6 a (by omega)]
            funext y
            simp only [ui]
            rw [if_neg (by omega), if_neg (by omega)]
          · rw [g5 a (by omega), t8 a (by omega), f5 a ha]
theorem t_find (hd : 5 ≤ d) {F : Int64} {fr : Nat → Bool} {ln : Nat → Nat} {z : Nat} (hz : I 9 3 = nI z) (hz6 : z ≤ 6) (hF : ∀ j, j < 64 → bl F j = fr j) (hln : lnOK I fr ln)
    (h : ∀ I' J', fnd I I' J J' F fr ln z 40 → Q none (I', J', KR p)) : T d me_X2_find [.ref 13, .ref 2, .long F] L I J p Q := by
  refine am_enter [some (.ref 13), some (.ref 2), some (.long F), none, none] rfl rfl rfl rfl ?_
  refine ev_aload_n (pc := 0) dX2_find_0 rfl (ev_lload_n (pc := 1) dX2_find_1 rfl (ev_putl (pc := 2) kF_2_32 dX2_find_2 rfl rfl rfl rfl (ev_aload_n (pc := 5) dX2_find_5 rfl (ev_iconst (pc := 6) (v := (0)) dX2_find_6 iconst_c0 (ev_puti (pc := 7) kF_2_36 dX2_find_7 rfl rfl rfl rfl rfl (ev_iconst (pc := 10) (v := (0)) dX2_find_10 iconst_c0 (ev_istore (pc := 11) dX2_find_11 rfl (?_))))))))
  refine lp_find (by omega) hz hz6 hF hln h 40 0 _ _ (by omega) ⟨⟨by simp [ui, gsL]; rfl, fun k hk => by simp [gsL] at hk⟩, fun i j hij hj => by simp [gsL] at hj, by simp [uj], fun a ha => ?_, fun a ha => ?_⟩
  · funext y
    simp only [ui]
    rw [if_neg (by omega)]
  · funext y
    simp only [uj]
    rw [if_neg (by omega)]
theorem t_hasGuess {n : Nat} (hn : I 13 6 = nI n) (hn40 : n ≤ 40) (q : Int32) (h : Q (some (.int (bI (ix n q).isSome))) (I, J, KR p)) : T d me_X2_hasGuess [.ref 13, .int q] L I J p Q := by
  refine am_enter [some (.ref 13), some (.int q)] rfl rfl rfl rfl ?_
  refine ev_iload_n (pc := 0) dX2_hasGuess_0 rfl (ev_if_lt (pc := 1) 22 dX2_hasGuess_1 (by decide) (fun c1 => ?_) (fun c1 => ?_))
  · rw [ix_neg c1] at h
    refine ev_iconst (pc := 22) (v := (0)) dX2_hasGuess_22 iconst_c0 (ev_zret (pc := 23) dX2_hasGuess_23 rfl (bI_01 false) ?_)
    exact h
  refine ev_iload_n (pc := 4) dX2_hasGuess_4 rfl (ev_aload_n (pc := 5) dX2_hasGuess_5 rfl (ev_geti (pc := 6) kF_2_36 dX2_hasGuess_6 rfl rfl (ev_icmp_ge (pc := 9) 22 dX2_hasGuess_9 (by decide) (fun c9 => ?_) (fun c9 => ?_))))
  · rw [hn] at c9
    rw [ix_ge c9] at h
    refine ev_iconst (pc := 22) (v := (0)) dX2_hasGuess_22 iconst_c0 (ev_zret (pc := 23) dX2_hasGuess_23 rfl (bI_01 false) ?_)
    exact h
  rw [hn] at c9
  obtain ⟨j, hj, rfl⟩ := ix_in (n := n) (by omega) c1 c9
  rw [ix_n hj (by omega)] at h
  refine ev_iload_n (pc := 12) dX2_hasGuess_12 rfl (ev_bipush (pc := 13) (v := (40)) dX2_hasGuess_13 bipush_c40 (ev_ncmp_ge (pc := 15) 22 (j) (40) dX2_hasGuess_15 (by decide) (rfl) (rfl) (by omega) (by omega) (kt := fun c => absurd c (by omega)) (kf := fun c15 => ev_iconst (pc := 18) (v := (1)) dX2_hasGuess_18 iconst_c1 (ev_goto (pc := 19) 23 dX2_hasGuess_19 (by decide) (ev_zret (pc := 23) dX2_hasGuess_23 rfl (bI_01 true) ?_)))))
  exact h
theorem t_sum {sc : Nat → Int32} {pg : Nat → List Nat} {l : List Nat} (hl : l.length ≤ 40) (hg : gOK I J sc pg l) (h : Q (some (.int ((l.map sc).foldl (· + ·) 0))) (I, J, KR p)) : T d me_X2_sum [.ref 13] L I J p Q := by
  refine am_enter [some (.ref 13), none, none] rfl rfl rfl rfl ?_
  refine ev_iconst (pc := 0) (v := (0)) dX2_sum_0 iconst_c0 (ev_istore_n (pc := 1) dX2_sum_1 rfl (ev_iconst (pc := 2) (v := (0)) dX2_sum_2 iconst_c0 (ev_istore_n (pc := 3) dX2_sum_3 rfl (?_))))
  have lp : ∀ (n k : Nat) (a : Int32), k + n = l.length → a = ((l.take k).map sc).foldl (· + ·) 0 → E me_X2_sum d L 4 [some (.ref 13), some (.int a), some (.int (nI k))] [] I J p Q := by
    intro n
    induction n with
    | zero =>
      intro k a hk ha
      refine ev_iload_n (pc := 4) dX2_sum_4 rfl (ev_aload_n (pc := 5) dX2_sum_5 rfl (ev_geti (pc := 6) kF_2_36 dX2_sum_6 rfl rfl (ev_ncmp_ge (pc := 9) 33 (k) (l.length) dX2_sum_9 (by decide) (rfl) (hg.1) (by omega) (by omega) (kf := fun c => absurd c (by omega)) (kt := fun c9 => ev_iload_n (pc := 33) dX2_sum_33 rfl (ev_iret (pc := 34) dX2_sum_34 rfl ?_)))))
      rw [ha, show k = l.length by omega, List.take_length]
      exact h
    | succ n ih =>
      intro k a hk ha
      refine ev_iload_n (pc := 4) dX2_sum_4 rfl (ev_aload_n (pc := 5) dX2_sum_5 rfl (ev_geti (pc := 6) kF_2_36 dX2_sum_6 rfl rfl (ev_ncmp_ge (pc := 9) 33 (k) (l.length) dX2_sum_9 (by decide) (rfl) (hg.1) (by omega) (by omega) (kt := fun c => absurd c (by omega)) (kf := fun c9 => ev_iload_n (pc := 12) dX2_sum_12 rfl (ev_bipush (pc := 13) (v := (40)) dX2_sum_13 bipush_c40 (ev_ncmp_ge (pc := 15) 33 (k) (40) dX2_sum_15 (by decide) (rfl) (rfl) (by omega) (by omega) (kt := fun c => absurd c (by omega)) (kf := fun c15 => ev_iload_n (pc := 18) dX2_sum_18 rfl (ev_aload_n (pc := 19) dX2_sum_19 rfl (ev_getr (pc := 20) kF_2_22 dX2_sum_20 rfl rfl rfl (ev_iload_n (pc := 23) dX2_sum_23 rfl (ev_iald (pc := 24) (i := k) dX2_sum_24 rfl (rfl) (by omega) rfl (?_))))))))))))
      rw [(hg.2 k (by omega)).2.1]
      refine ev_iadd (pc := 25) dX2_sum_25 (ev_istore_n (pc := 26) dX2_sum_26 rfl (ev_iinc (pc := 27) dX2_sum_27 rfl (iinc_1 _) rfl (ev_goto (pc := 30) 4 dX2_sum_30 (by decide) (?_))))
      refine ih (k + 1) _ (by omega) ?_
      rw [List.take_succ_eq_append_getElem (by omega), List.map_append, List.foldl_append, ← ha]
      simp [List.getD_eq_getElem?_getD, show k < l.length by omega]
  exact lp l.length 0 0 (by omega) (by simp)
theorem t_meeting {sc : Nat → Int32} {pg : Nat → List Nat} {l : List Nat} {S : Int64} {M : Nat → Bool} (hl : l.length ≤ 40) (hg : gOK I J sc pg l) (hM : ∀ j, j < 64 → bl S j = M j) (hpg : ∀ f ∈ l, ∀ q ∈ pg f, q < 64) (h : Q (some (.int (nI (cntB (fun k => (pg (l.getD k 0)).any M) l.length)))) (I, J, KR p)) : T d me_X2_meeting [.ref 13, .long S] L I J p Q := by
  refine am_enter [some (.ref 13), some (.long S), none, none, none] rfl rfl rfl rfl ?_
  refine ev_iconst (pc := 0) (v := (0)) dX2_meeting_0 iconst_c0 (ev_istore_n (pc := 1) dX2_meeting_1 rfl (ev_iconst (pc := 2) (v := (0)) dX2_meeting_2 iconst_c0 (ev_istore (pc := 3) dX2_meeting_3 rfl (?_))))
  have lp : ∀ (n k a : Nat), k + n = l.length → a = cntB (fun k => (pg (l.getD k 0)).any M) k → E me_X2_meeting d L 5 [some (.ref 13), some (.long S), none, some (.int (nI a)), some (.int (nI k))] [] I J p Q := by
    intro n
    induction n with
    | zero =>
      intro k a hk ha
      refine ev_iload (pc := 5) dX2_meeting_5 rfl (ev_aload_n (pc := 7) dX2_meeting_7 rfl (ev_geti (pc := 8) kF_2_36 dX2_meeting_8 rfl rfl (ev_ncmp_ge (pc := 11) 44 (k) (l.length) dX2_meeting_11 (by decide) (rfl) (hg.1) (by omega) (by omega) (kf := fun c => absurd c (by omega)) (kt := fun c11 => ev_iload_n (pc := 44) dX2_meeting_44 rfl (ev_iret (pc := 45) dX2_meeting_45 rfl ?_)))))
      rw [ha, show k = l.length by omega]
      exact h
    | succ n ih =>
      intro k a hk ha
      have o := (hg.2 k (by omega)).2.2
      have hb : lg_cmp (J 19 k &&& S) 0 = 0 ↔ (pg (l.getD k 0)).any M = false := by
        rw [bl_meet]
        constructor
        · intro q
          cases ha : (pg (l.getD k 0)).any M
          · rfl
          · obtain ⟨j, j1, j2⟩ := List.any_eq_true.mp ha
            have j3 := hpg _ (getD_mem (by omega)) j j1
            exact absurd ⟨by rw [o j j3, decide_eq_true_eq]; exact j1, by rw [hM j j3]; exact j2⟩ (q j j3)
        · intro q i hi ⟨q1, q2⟩
          rw [o i hi, decide_eq_true_eq] at q1
          rw [hM i hi] at q2
          have := List.any_eq_false.mp q i q1
          exact this q2
      refine ev_iload (pc := 5) dX2_meeting_5 rfl (ev_aload_n (pc := 7) dX2_meeting_7 rfl (ev_geti (pc := 8) kF_2_36 dX2_meeting_8 rfl rfl (ev_ncmp_ge (pc := 11) 44 (k) (l.length) dX2_meeting_11 (by decide) (rfl) (hg.1) (by omega) (by omega) (kt := fun c => absurd c (by omega)) (kf := fun c11 => ev_iload (pc := 14) dX2_meeting_14 rfl (ev_bipush (pc := 16) (v := (40)) dX2_meeting_16 bipush_c40 (ev_ncmp_ge (pc := 18) 44 (k) (40) dX2_meeting_18 (by decide) (rfl) (rfl) (by omega) (by omega) (kt := fun c => absurd c (by omega)) (kf := fun c18 => ev_aload_n (pc := 21) dX2_meeting_21 rfl (ev_getr (pc := 22) kF_2_25 dX2_meeting_22 rfl rfl rfl (ev_iload (pc := 25) dX2_meeting_25 rfl (ev_lald (pc := 27) (i := k) dX2_meeting_27 rfl rfl (rfl) (by omega) rfl (ev_lload_n (pc := 28) dX2_meeting_28 rfl (ev_land (pc := 29) dX2_meeting_29 (ev_lconst (pc := 30) (v := 0) dX2_meeting_30 rfl (ev_lcmp (pc := 31) dX2_meeting_31 (ev_if_eq (pc := 32) 38 dX2_meeting_32 (by decide) (fun c32 => ?_) (fun c32 => ?_))))))))))))))))
      · refine ev_iinc (pc := 38) dX2_meeting_38 rfl (iinc_1 _) rfl (ev_goto (pc := 41) 5 dX2_meeting_41 (by decide) (?_))
        exact ih (k + 1) a (by omega) (by simp only [cntB, hb.mp c32, ha]; simp)
      · have hc : (pg (l.getD k 0)).any M = true := by
          cases hq : (pg (l.getD k 0)).any M
          · exact absurd (hb.mpr hq) c32
          · rfl
        refine ev_iinc (pc := 35) dX2_meeting_35 rfl (iinc_1 _) rfl (ev_iinc (pc := 38) dX2_meeting_38 rfl (iinc_1 _) rfl (ev_goto (pc := 41) 5 dX2_meeting_41 (by decide) (?_)))
        exact ih (k + 1) (a + 1) (by omega) (by simp only [cntB, hc, ha]; simp)
  exact lp l.length 0 0 (by omega) rfl
theorem t_withPage (hd : 1 ≤ d) {sc : Nat → Int32} {pg : Nat → List Nat} {l : List Nat} {q : Nat} (hq : q < 40) (hl : l.length ≤ 40) (hg : gOK I J sc pg l) (hpg : ∀ f ∈ l, ∀ q ∈ pg f, q < 64) (h : Q (some (.int (nI (cntB (fun k => (pg (l.getD k 0)).any fun j => decide (j = q)) l.length)))) (I, J, KR p)) : T d me_X2_withPage [.ref 13, .int (nI q)] L I J p Q := by
  refine am_enter [some (.ref 13), some (.int (nI q))] rfl rfl rfl rfl ?_
  refine ev_aload_n (pc := 0) dX2_withPage_0 rfl (ev_lconst (pc := 1) (v := 1) dX2_withPage_1 rfl (ev_iload_n (pc := 2) dX2_withPage_2 rfl (ev_lshl (pc := 3) dX2_withPage_3 (ev_invV (pc := 4) kV_2_71 dX2_withPage_4 rfl rfl rfl (by omega) rfl ?_))))
  refine t_meeting hl hg (fun j hj => bl_one (by omega) j) hpg ?_
  refine ev_iret (pc := 7) dX2_withPage_7 rfl ?_
  exact h
theorem t_sharingWith (hd : 1 ≤ d) {sc : Nat → Int32} {pg : Nat → List Nat} {l : List Nat} {g : Nat} (hgl : g < l.length) (hl : l.length ≤ 40) (hg : gOK I J sc pg l) (hpg : ∀ f ∈ l, ∀ q ∈ pg f, q < 64) (h : Q (some (.int (nI (cntB (fun k => (pg (l.getD k 0)).any fun j => decide (j ∈ pg (l.getD g 0))) l.length) - 1))) (I, J, KR p)) : T d me_X2_sharingWith [.ref 13, .int (nI g)] L I J p Q := by
  refine am_enter [some (.ref 13), some (.int (nI g))] rfl rfl rfl rfl ?_
  refine ev_aload_n (pc := 0) dX2_sharingWith_0 rfl (ev_iload_n (pc := 1) dX2_sharingWith_1 rfl (ev_invV (pc := 2) kV_2_67 dX2_sharingWith_2 rfl rfl rfl (by omega) rfl ?_))
  refine t_hasGuess hg.1 hl _ ?_
  rw [ix_n hgl (by omega)]
  refine ev_ifb_eq (pc := 5) 23 dX2_sharingWith_5 (by decide) (kt := fun c => absurd c (by simp)) (kf := fun c5 => ev_aload_n (pc := 8) dX2_sharingWith_8 rfl (ev_aload_n (pc := 9) dX2_sharingWith_9 rfl (ev_getr (pc := 10) kF_2_25 dX2_sharingWith_10 rfl rfl rfl (ev_iload_n (pc := 13) dX2_sharingWith_13 rfl (ev_lald (pc := 14) (i := g) dX2_sharingWith_14 rfl rfl (rfl) (by omega) rfl (ev_invV (pc := 15) kV_2_71 dX2_sharingWith_15 rfl rfl rfl (by omega) rfl ?_))))))
  refine t_meeting hl hg (fun j hj => (hg.2 g hgl).2.2 j hj) hpg ?_
  refine ev_iconst (pc := 18) (v := (1)) dX2_sharingWith_18 iconst_c1 (ev_isub (pc := 19) dX2_sharingWith_19 (ev_goto (pc := 20) 24 dX2_sharingWith_20 (by decide) (ev_iret (pc := 24) dX2_sharingWith_24 rfl ?_)))
  exact h
end T26
