/-! ===== the disk's loops ===== -/
def frP (I : Nat → Nat → Int32) : Nat → Bool := fun j => decide (I 7 j = -1)
def nxf (I : Nat → Nat → Int32) (q : Int32) : Int32 := (ix 40 q).elim (-1) fun j => I 6 j
def itr (f : Int32 → Int32) : Nat → Int32 → Int32
  | 0, q => q
  | n + 1, q => itr f n (f q)
theorem itr_m1 (I : Nat → Nat → Int32) : ∀ n, itr (nxf I) n (-1) = -1
  | 0 => rfl
  | n + 1 => by
    have : nxf I (-1) = -1 := by unfold nxf; rw [ix_m1]; rfl
    simp only [itr, this, itr_m1 I n]
def strF (f : Int32 → Int32) : Nat → Int32 → Bool
  | 0, _ => true
  | n + 1, q => if f q = -1 then true else if f q = q + 1 then strF f n (q + 1) else false
/-- the run of what has it that ends ahead of n; the longest one -/
def rnP (P : Nat → Bool) : Nat → Nat
  | 0 => 0
  | n + 1 => if P n then rnP P n + 1 else 0
def mxP (P : Nat → Bool) : Nat → Nat
  | 0 => 0
  | n + 1 => if mxP P n < rnP P (n + 1) then rnP P (n + 1) else mxP P n
def lrF (P : Nat → Bool) (len : Nat) : Nat → Nat → Option Nat
  | 0, _ => none
  | n + 1, i => if rnP P (i + 1) = len then some (i + 1 - len) else lrF P len n (i + 1)
theorem rnP_le (P : Nat → Bool) : ∀ n, rnP P n ≤ n
  | 0 => Nat.le_refl _
  | n + 1 => by
    have := rnP_le P n
    simp only [rnP]
    split <;> omega
theorem mxP_le (P : Nat → Bool) : ∀ n, mxP P n ≤ n
  | 0 => Nat.le_refl _
  | n + 1 => by
    have := mxP_le P n
    have := rnP_le P (n + 1)
    simp only [mxP]
    split <;> omega
section T15
variable {d L : Nat} {I : Nat → Nat → Int32} {J : Nat → Nat → Int64} {p : Nat → Nat} {Q : Option Value → am_M → Prop}
theorem t_nxf (q : Int32) (h : Q (some (.int (nxf I q))) (I, J, KR p)) : T d me_X0_nextOn [.ref 2, .int q] L I J p Q := t_X0_nextOn q h
theorem t_isFree_n {j : Nat} (hj : j < 40) (h : Q (some (.int (bI (frP I j)))) (I, J, KR p)) : T d me_X0_isFree [.ref 2, .int (nI j)] L I J p Q := t_X0_isFree _ (by rw [ix_n hj (by decide)]; exact h)
theorem t_isFree_m1 (h : Q (some (.int (bI false))) (I, J, KR p)) : T d me_X0_isFree [.ref 2, .int (-1)] L I J p Q := t_X0_isFree _ (by rw [ix_m1]; exact h)
theorem t_hasFile_n {j : Nat} (hj : j < 30) (h : Q (some (.int (bI (decide (I 8 j ≠ -1))))) (I, J, KR p)) : T d me_X0_hasFile [.ref 2, .int (nI j)] L I J p Q := t_X0_hasFile _ (by rw [ix_n hj (by decide)]; exact h)
theorem lp_filePage (hd : 1 ≤ d) (nm : Value) (k0 : Nat) (hk0 : k0 < 2 ^ 31) : ∀ (n k : Nat) (q : Int32), k + n = k0 → Q (some (.int (itr (nxf I) n q))) (I, J, KR p) → E me_X0_filePage d L 22 [some (.ref 2), some nm, some (.int (nI k0)), some (.int q), some (.int (nI k))] [] I J p Q
  | 0, k, q, hk, h => by
    refine ev_iload (pc := 22) dX0_filePage_22 rfl (ev_iload_n (pc := 24) dX0_filePage_24 rfl (ev_ncmp_ge (pc := 25) 45 (k) (k0) dX0_filePage_25 (by decide) (rfl) (rfl) (by omega) (by omega) (kf := fun c => absurd c (by omega)) (kt := fun c25 => ev_iload_n (pc := 45) dX0_filePage_45 rfl (ev_iret (pc := 46) dX0_filePage_46 rfl ?_))))
    exact h
  | n + 1, k, q, hk, h => by
    refine ev_iload (pc := 22) dX0_filePage_22 rfl (ev_iload_n (pc := 24) dX0_filePage_24 rfl (ev_ncmp_ge (pc := 25) 45 (k) (k0) dX0_filePage_25 (by decide) (rfl) (rfl) (by omega) (by omega) (kt := fun c => absurd c (by omega)) (kf := fun c25 => ev_iload_n (pc := 28) dX0_filePage_28 rfl (ev_iconst (pc := 29) (v := (-1)) dX0_filePage_29 iconst_cm1 (ev_icmp_eq (pc := 30) 45 dX0_filePage_30 (by decide) (fun c30 => ?_) (fun c30 => ?_))))))
    · subst c30
      refine ev_iload_n (pc := 45) dX0_filePage_45 rfl (ev_iret (pc := 46) dX0_filePage_46 rfl ?_)
      rw [itr_m1] at h
      exact h
    · refine ev_aload_n (pc := 33) dX0_filePage_33 rfl (ev_iload_n (pc := 34) dX0_filePage_34 rfl (ev_invV (pc := 35) kV_0_61 dX0_filePage_35 rfl rfl rfl (by omega) rfl ?_))
      refine t_nxf _ ?_
      refine ev_istore_n (pc := 38) dX0_filePage_38 rfl (ev_iinc (pc := 39) dX0_filePage_39 rfl (iinc_1 _) rfl (ev_goto (pc := 42) 22 dX0_filePage_42 (by decide) (?_)))
      exact lp_filePage hd nm k0 hk0 n (k + 1) _ (by omega) h
theorem t_X0_filePage (hd : 1 ≤ d) {j : Nat} (hj : j < 30) {k : Nat} (hk : k < 2 ^ 31) (h : Q (some (.int (itr (nxf I) k (I 8 j)))) (I, J, KR p)) : T d me_X0_filePage [.ref 2, .int (nI j), .int (nI k)] L I J p Q := by
  refine am_enter [some (.ref 2), some (.int (nI j)), some (.int (nI k)), none, none] rfl rfl rfl rfl ?_
  refine ev_aload_n (pc := 0) dX0_filePage_0 rfl (ev_iload_n (pc := 1) dX0_filePage_1 rfl (ev_invV (pc := 2) kV_0_57 dX0_filePage_2 rfl rfl rfl (by omega) rfl ?_))
  refine t_hasFile_n hj ?_
  refine ev_ifb_eq (pc := 5) 17 dX0_filePage_5 (by decide) (fun c5 => ?_) (fun c5 => ?_)
  · refine ev_iconst (pc := 17) (v := (-1)) dX0_filePage_17 iconst_cm1 (ev_istore_n (pc := 18) dX0_filePage_18 rfl (ev_iconst (pc := 19) (v := (0)) dX0_filePage_19 iconst_c0 (ev_istore (pc := 20) dX0_filePage_20 rfl (?_))))
    have e : I 8 j = -1 := by simpa using c5
    rw [e] at h
    exact lp_filePage hd _ k hk k 0 (-1) (by omega) h
  · refine ev_aload_n (pc := 8) dX0_filePage_8 rfl (ev_getr (pc := 9) kF_0_27 dX0_filePage_9 rfl rfl rfl (ev_iload_n (pc := 12) dX0_filePage_12 rfl (ev_iald (pc := 13) (i := j) dX0_filePage_13 rfl (rfl) (by omega) rfl (ev_goto (pc := 14) 18 dX0_filePage_14 (by decide) (ev_istore_n (pc := 18) dX0_filePage_18 rfl (ev_iconst (pc := 19) (v := (0)) dX0_filePage_19 iconst_c0 (ev_istore (pc := 20) dX0_filePage_20 rfl (?_))))))))
    exact lp_filePage hd _ k hk k 0 _ (by omega) h
theorem lp_isStraight (hd : 1 ≤ d) (fs : Int32) : ∀ (n k : Nat) (q : Int32), k + n = 12 → Q (some (.int (bI (strF (nxf I) n q)))) (I, J, KR p) → E me_X0_isStraight d L 4 [some (.ref 2), some (.int fs), some (.int q), some (.int (nI k))] [] I J p Q
  | 0, k, q, hk, h => by
    refine ev_iload_n (pc := 4) dX0_isStraight_4 rfl (ev_bipush (pc := 5) (v := (12)) dX0_isStraight_5 bipush_c12 (ev_ncmp_ge (pc := 7) 41 (k) (12) dX0_isStraight_7 (by decide) (rfl) (rfl) (by omega) (by omega) (kf := fun c => absurd c (by omega)) (kt := fun c7 => ev_iconst (pc := 41) (v := (1)) dX0_isStraight_41 iconst_c1 (ev_zret (pc := 42) dX0_isStraight_42 rfl (bI_01 true) ?_))))
    exact h
  | n + 1, k, q, hk, h => by
    refine ev_iload_n (pc := 4) dX0_isStraight_4 rfl (ev_bipush (pc := 5) (v := (12)) dX0_isStraight_5 bipush_c12 (ev_ncmp_ge (pc := 7) 41 (k) (12) dX0_isStraight_7 (by decide) (rfl) (rfl) (by omega) (by omega) (kt := fun c => absurd c (by omega)) (kf := fun c7 => ev_aload_n (pc := 10) dX0_isStraight_10 rfl (ev_iload_n (pc := 11) dX0_isStraight_11 rfl (ev_invV (pc := 12) kV_0_61 dX0_isStraight_12 rfl rfl rfl (by omega) rfl ?_)))))
    refine t_nxf _ ?_
    refine ev_iconst (pc := 15) (v := (-1)) dX0_isStraight_15 iconst_cm1 (ev_icmp_eq (pc := 16) 41 dX0_isStraight_16 (by decide) (fun c16 => ?_) (fun c16 => ?_))
    · refine ev_iconst (pc := 41) (v := (1)) dX0_isStraight_41 iconst_c1 (ev_zret (pc := 42) dX0_isStraight_42 rfl (bI_01 true) ?_)
      simp only [strF] at h
      rw [if_pos c16] at h
      exact h
    · refine ev_aload_n (pc := 19) dX0_isStraight_19 rfl (ev_iload_n (pc := 20) dX0_isStraight_20 rfl (ev_invV (pc := 21) kV_0_61 dX0_isStraight_21 rfl rfl rfl (by omega) rfl ?_))
      refine t_nxf _ ?_
      refine ev_iload_n (pc := 24) dX0_isStraight_24 rfl (ev_iconst (pc := 25) (v := (1)) dX0_isStraight_25 iconst_c1 (ev_iadd (pc := 26) dX0_isStraight_26 (ev_icmp_eq (pc := 27) 32 dX0_isStraight_27 (by decide) (fun c27 => ?_) (fun c27 => ?_))))
      · refine ev_iinc (pc := 32) dX0_isStraight_32 rfl ( iinc_r _) rfl (ev_iinc (pc := 35) dX0_isStraight_35 rfl (iinc_1 _) rfl (ev_goto (pc := 38) 4 dX0_isStraight_38 (by decide) (?_)))
        simp only [strF] at h
        rw [if_neg c16, if_pos c27] at h
        exact lp_isStraight hd fs n (k + 1) _ (by omega) h
      · refine ev_iconst (pc := 30) (v := (0)) dX0_isStraight_30 iconst_c0 (ev_zret (pc := 31) dX0_isStraight_31 rfl (bI_01 false) ?_)
        simp only [strF] at h
        rw [if_neg c16, if_neg c27] at h
        exact h
theorem t_X0_isStraight (hd : 1 ≤ d) (q : Int32) (h : Q (some (.int (bI (strF (nxf I) 11 q)))) (I, J, KR p)) : T d me_X0_isStraight [.ref 2, .int q] L I J p Q := by
  refine am_enter [some (.ref 2), some (.int q), none, none] rfl rfl rfl rfl ?_
  refine ev_iload_n (pc := 0) dX0_isStraight_0 rfl (ev_istore_n (pc := 1) dX0_isStraight_1 rfl (ev_iconst (pc := 2) (v := (1)) dX0_isStraight_2 iconst_c1 (ev_istore_n (pc := 3) dX0_isStraight_3 rfl (?_))))
  exact lp_isStraight hd _ 11 1 q rfl h
theorem lp_freeSet : ∀ (n i : Nat) (S : Int64), i + n = 40 → S = mkS (frP I) i → Q (some (.long (mkS (frP I) 40))) (I, J, KR p) → E me_X0_freeSet d L 4 [some (.ref 2), some (.long S), none, some (.int (nI i))] [] I J p Q
  | 0, i, S, hi, hS, h => by
    refine ev_iload_n (pc := 4) dX0_freeSet_4 rfl (ev_bipush (pc := 5) (v := (40)) dX0_freeSet_5 bipush_c40 (ev_ncmp_ge (pc := 7) 32 (i) (40) dX0_freeSet_7 (by decide) (rfl) (rfl) (by omega) (by omega) (kf := fun c => absurd c (by omega)) (kt := fun c7 => ev_lload_n (pc := 32) dX0_freeSet_32 rfl (ev_lret (pc := 33) dX0_freeSet_33 rfl ?_))))
    have e : i = 40 := by omega
    subst e
    rw [hS]
    exact h
  | n + 1, i, S, hi, hS, h => by
    refine ev_iload_n (pc := 4) dX0_freeSet_4 rfl (ev_bipush (pc := 5) (v := (40)) dX0_freeSet_5 bipush_c40 (ev_ncmp_ge (pc := 7) 32 (i) (40) dX0_freeSet_7 (by decide) (rfl) (rfl) (by omega) (by omega) (kt := fun c => absurd c (by omega)) (kf := fun c7 => ev_aload_n (pc := 10) dX0_freeSet_10 rfl (ev_getr (pc := 11) kF_0_24 dX0_freeSet_11 rfl rfl rfl (ev_iload_n (pc := 14) dX0_freeSet_14 rfl (ev_iald (pc := 15) (i := i) dX0_freeSet_15 rfl (rfl) (by omega) rfl (ev_iconst (pc := 16) (v := (-1)) dX0_freeSet_16 iconst_cm1 (ev_icmp_ne (pc := 17) 26 dX0_freeSet_17 (by decide) (fun c17 => ?_) (fun c17 => ?_)))))))))
    · refine ev_iinc (pc := 26) dX0_freeSet_26 rfl (iinc_1 _) rfl (ev_goto (pc := 29) 4 dX0_freeSet_29 (by decide) (?_))
      exact lp_freeSet n (i + 1) S (by omega) (by simp [mkS, frP, c17, hS]) h
    · refine ev_lload_n (pc := 20) dX0_freeSet_20 rfl (ev_lconst (pc := 21) (v := 1) dX0_freeSet_21 rfl (ev_iload_n (pc := 22) dX0_freeSet_22 rfl (ev_lshl (pc := 23) dX0_freeSet_23 (ev_lor (pc := 24) dX0_freeSet_24 (ev_lstore_n (pc := 25) dX0_freeSet_25 rfl (ev_iinc (pc := 26) dX0_freeSet_26 rfl (iinc_1 _) rfl (ev_goto (pc := 29) 4 dX0_freeSet_29 (by decide) (?_))))))))
      have c := c17
      exact lp_freeSet n (i + 1) _ (by omega) (by simp [mkS, frP, c, hS]) h
theorem t_X0_freeSet (h : Q (some (.long (mkS (frP I) 40))) (I, J, KR p)) : T d me_X0_freeSet [.ref 2] L I J p Q := by
  refine am_enter [some (.ref 2), none, none, none] rfl rfl rfl rfl ?_
  refine ev_lconst (pc := 0) (v := 0) dX0_freeSet_0 rfl (ev_lstore_n (pc := 1) dX0_freeSet_1 rfl (ev_iconst (pc := 2) (v := (0)) dX0_freeSet_2 iconst_c0 (ev_istore_n (pc := 3) dX0_freeSet_3 rfl (?_))))
  exact lp_freeSet 40 0 0 rfl rfl h
theorem t_X0_freePages (hd : 1 ≤ d) (h : Q (some (.int (nI (cntB (frP I) 40)))) (I, J, KR p)) : T d me_X0_freePages [.ref 2] L I J p Q := by
  refine am_enter [some (.ref 2)] rfl rfl rfl rfl ?_
  refine ev_aload_n (pc := 0) dX0_freePages_0 rfl (ev_invV (pc := 1) kV_0_65 dX0_freePages_1 rfl rfl rfl (by omega) rfl ?_)
  refine t_X0_freeSet ?_
  refine ev_invS (pc := 4) kS_0_69 dX0_freePages_4 rfl (by omega) rfl ?_
  refine t_bitCount _ ?_
  refine ev_iret (pc := 7) dX0_freePages_7 rfl ?_
  rw [bcJ_mkS]
  exact h
theorem lp_marked (S : Int64) : ∀ (n i k : Nat), i + n = 40 → k = cntB (fun j => bl S j && decide (I 3 j ≠ 0)) i → Q (some (.int (nI (cntB (fun j => bl S j && decide (I 3 j ≠ 0)) 40)))) (I, J, KR p) → E me_X0_markedPages d L 5 [some (.ref 2), some (.long S), none, some (.int (nI k)), some (.int (nI i))] [] I J p Q
  | 0, i, k, hi, hk, h => by
    refine ev_iload (pc := 5) dX0_markedPages_5 rfl (ev_bipush (pc := 7) (v := (40)) dX0_markedPages_7 bipush_c40 (ev_ncmp_ge (pc := 9) 42 (i) (40) dX0_markedPages_9 (by decide) (rfl) (rfl) (by omega) (by omega) (kf := fun c => absurd c (by omega)) (kt := fun c9 => ev_iload_n (pc := 42) dX0_markedPages_42 rfl (ev_iret (pc := 43) dX0_markedPages_43 rfl ?_))))
    have e : i = 40 := by omega
    subst e
    rw [hk]
    exact h
  | n + 1, i, k, hi, hk, h => by
    refine ev_iload (pc := 5) dX0_markedPages_5 rfl (ev_bipush (pc := 7) (v := (40)) dX0_markedPages_7 bipush_c40 (ev_ncmp_ge (pc := 9) 42 (i) (40) dX0_markedPages_9 (by decide) (rfl) (rfl) (by omega) (by omega) (kt := fun c => absurd c (by omega)) (kf := fun c9 => ev_lload_n (pc := 12) dX0_markedPages_12 rfl (ev_iload (pc := 13) dX0_markedPages_13 rfl (ev_lshr (pc := 15) dX0_markedPages_15 (ev_lconst (pc := 16) (v := 1) dX0_markedPages_16 rfl (ev_land (pc := 17) dX0_markedPages_17 (ev_lconst (pc := 18) (v := 0) dX0_markedPages_18 rfl (ev_lcmp (pc := 19) dX0_markedPages_19 (ev_if_eq (pc := 20) 36 dX0_markedPages_20 (by decide) (fun c20 => ?_) (fun c20 => ?_)))))))))))
    · have c := (bl_test (by omega)).mp c20
      refine ev_iinc (pc := 36) dX0_markedPages_36 rfl (iinc_1 _) rfl (ev_goto (pc := 39) 5 dX0_markedPages_39 (by decide) (?_))
      exact lp_marked S n (i + 1) k (by omega) (by simp [cntB, hk, c]) h
    · have c : bl S i = true := by
        cases hb : bl S i
        · exact absurd ((bl_test (by omega)).mpr hb) c20
        · rfl
      refine ev_aload_n (pc := 23) dX0_markedPages_23 rfl (ev_getr (pc := 24) kF_0_9 dX0_markedPages_24 rfl rfl rfl (ev_iload (pc := 27) dX0_markedPages_27 rfl (ev_iald (pc := 29) (i := i) dX0_markedPages_29 rfl (rfl) (by omega) rfl (ev_if_eq (pc := 30) 36 dX0_markedPages_30 (by decide) (fun c30 => ?_) (fun c30 => ?_)))))
      · refine ev_iinc (pc := 36) dX0_markedPages_36 rfl (iinc_1 _) rfl (ev_goto (pc := 39) 5 dX0_markedPages_39 (by decide) (?_))
        exact lp_marked S n (i + 1) k (by omega) (by simp [cntB, hk, c30]) h
      · refine ev_iinc (pc := 33) dX0_markedPages_33 rfl (iinc_1 _) rfl (ev_iinc (pc := 36) dX0_markedPages_36 rfl (iinc_1 _) rfl (ev_goto (pc := 39) 5 dX0_markedPages_39 (by decide) (?_)))
        exact lp_marked S n (i + 1) (k + 1) (by omega) (by simp [cntB, hk, c, c30]) h
theorem t_X0_markedPages (S : Int64) (h : Q (some (.int (nI (cntB (fun j => bl S j && decide (I 3 j ≠ 0)) 40)))) (I, J, KR p)) : T d me_X0_markedPages [.ref 2, .long S] L I J p Q := by
  refine am_enter [some (.ref 2), some (.long S), none, none, none] rfl rfl rfl rfl ?_
  refine ev_iconst (pc := 0) (v := (0)) dX0_markedPages_0 iconst_c0 (ev_istore_n (pc := 1) dX0_markedPages_1 rfl (ev_iconst (pc := 2) (v := (0)) dX0_markedPages_2 iconst_c0 (ev_istore (pc := 3) dX0_markedPages_3 rfl (?_))))
  exact lp_marked S 40 0 0 rfl rfl h
def frR (P : Nat → Bool) : Nat → Bool := fun j => P j && !(decide (1 ≤ j) && P (j - 1))
theorem lp_freeRuns (hd : 1 ≤ d) : ∀ (n i k : Nat), i + n = 40 → k = cntB (frR (frP I)) i → Q (some (.int (nI (cntB (frR (frP I)) 40)))) (I, J, KR p) → E me_X0_freeRuns d L 4 [some (.ref 2), some (.int (nI k)), some (.int (nI i))] [] I J p Q
  | 0, i, k, hi, hk, h => by
    refine ev_iload_n (pc := 4) dX0_freeRuns_4 rfl (ev_bipush (pc := 5) (v := (40)) dX0_freeRuns_5 bipush_c40 (ev_ncmp_ge (pc := 7) 37 (i) (40) dX0_freeRuns_7 (by decide) (rfl) (rfl) (by omega) (by omega) (kf := fun c => absurd c (by omega)) (kt := fun c7 => ev_iload_n (pc := 37) dX0_freeRuns_37 rfl (ev_iret (pc := 38) dX0_freeRuns_38 rfl ?_))))
    have e : i = 40 := by omega
    subst e
    rw [hk]
    exact h
  | n + 1, i, k, hi, hk, h => by
    refine ev_iload_n (pc := 4) dX0_freeRuns_4 rfl (ev_bipush (pc := 5) (v := (40)) dX0_freeRuns_5 bipush_c40 (ev_ncmp_ge (pc := 7) 37 (i) (40) dX0_freeRuns_7 (by decide) (rfl) (rfl) (by omega) (by omega) (kt := fun c => absurd c (by omega)) (kf := fun c7 => ev_aload_n (pc := 10) dX0_freeRuns_10 rfl (ev_iload_n (pc := 11) dX0_freeRuns_11 rfl (ev_invV (pc := 12) kV_0_75 dX0_freeRuns_12 rfl rfl rfl (by omega) rfl ?_)))))
    refine t_isFree_n (by omega) ?_
    refine ev_ifb_eq (pc := 15) 31 dX0_freeRuns_15 (by decide) (fun c15 => ?_) (fun c15 => ?_)
    · refine ev_iinc (pc := 31) dX0_freeRuns_31 rfl (iinc_1 _) rfl (ev_goto (pc := 34) 4 dX0_freeRuns_34 (by decide) (?_))
      exact lp_freeRuns hd n (i + 1) k (by omega) (by simp [cntB, frR, hk, c15]) h
    · refine ev_aload_n (pc := 18) dX0_freeRuns_18 rfl (ev_iload_n (pc := 19) dX0_freeRuns_19 rfl (ev_iconst (pc := 20) (v := (1)) dX0_freeRuns_20 iconst_c1 (ev_isub (pc := 21) dX0_freeRuns_21 (ev_invV (pc := 22) kV_0_75 dX0_freeRuns_22 rfl rfl rfl (by omega) rfl ?_))))
      rcases Nat.eq_zero_or_pos i with h0 | h0
      · subst h0
        refine t_isFree_m1 ?_
        refine ev_ifb_ne (pc := 25) 31 dX0_freeRuns_25 (by decide) (kt := fun c => absurd c (by decide)) (kf := fun c25 => ev_iinc (pc := 28) dX0_freeRuns_28 rfl (iinc_1 _) rfl (ev_iinc (pc := 31) dX0_freeRuns_31 rfl (iinc_1 _) rfl (ev_goto (pc := 34) 4 dX0_freeRuns_34 (by decide) (?_))))
        exact lp_freeRuns hd n 1 (k + 1) (by omega) (by simp [cntB, frR, hk, c15]) h
      · obtain ⟨m, rfl⟩ : ∃ m, i = m + 1 := ⟨i - 1, by omega⟩
        rw [nI_pred]
        refine t_isFree_n (by omega) ?_
        refine ev_ifb_ne (pc := 25) 31 dX0_freeRuns_25 (by decide) (fun c25 => ?_) (fun c25 => ?_)
        · refine ev_iinc (pc := 31) dX0_freeRuns_31 rfl (iinc_1 _) rfl (ev_goto (pc := 34) 4 dX0_freeRuns_34 (by decide) (?_))
          exact lp_freeRuns hd n (m + 1 + 1) k (by omega) (by simp [cntB, frR, hk, c25]) h
        · refine ev_iinc (pc := 28) dX0_freeRuns_28 rfl (iinc_1 _) rfl (ev_iinc (pc := 31) dX0_freeRuns_31 rfl (iinc_1 _) rfl (ev_goto (pc := 34) 4 dX0_freeRuns_34 (by decide) (?_)))
          exact lp_freeRuns hd n (m + 1 + 1) (k + 1) (by omega) (by simp [cntB, frR, hk, c15, c25]) h
theorem t_X0_freeRuns (hd : 1 ≤ d) (h : Q (some (.int (nI (cntB (frR (frP I)) 40)))) (I, J, KR p)) : T d me_X0_freeRuns [.ref 2] L I J p Q := by
  refine am_enter [some (.ref 2), none, none] rfl rfl rfl rfl ?_
  refine ev_iconst (pc := 0) (v := (0)) dX0_freeRuns_0 iconst_c0 (ev_istore_n (pc := 1) dX0_freeRuns_1 rfl (ev_iconst (pc := 2) (v := (0)) dX0_freeRuns_2 iconst_c0 (ev_istore_n (pc := 3) dX0_freeRuns_3 rfl (?_))))
  exact lp_freeRuns hd 40 0 0 rfl rfl h
theorem nI_max {a b : Nat} (ha : a < 2 ^ 31) (hb : b < 2 ^ 31) : (if nI a < nI b then nI b else nI a) = nI (if a < b then b else a) := by
  by_cases h : a < b
  · rw [if_pos h, if_pos ((nI_ltI ha hb).mpr h)]
  · rw [if_neg h, if_neg (mt (nI_ltI ha hb).mp h)]
theorem lp_longestRun (hd : 1 ≤ d) : ∀ (n i a b : Nat), i + n = 40 → a = mxP (frP I) i → b = rnP (frP I) i → Q (some (.int (nI (mxP (frP I) 40)))) (I, J, KR p) → E me_X0_longestRun d L 6 [some (.ref 2), some (.int (nI a)), some (.int (nI b)), some (.int (nI i))] [] I J p Q
  | 0, i, a, b, hi, ha, hb, h => by
    refine ev_iload_n (pc := 6) dX0_longestRun_6 rfl (ev_bipush (pc := 7) (v := (40)) dX0_longestRun_7 bipush_c40 (ev_ncmp_ge (pc := 9) 40 (i) (40) dX0_longestRun_9 (by decide) (rfl) (rfl) (by omega) (by omega) (kf := fun c => absurd c (by omega)) (kt := fun c9 => ev_iload_n (pc := 40) dX0_longestRun_40 rfl (ev_iret (pc := 41) dX0_longestRun_41 rfl ?_))))
    have e : i = 40 := by omega
    subst e
    rw [ha]
    exact h
  | n + 1, i, a, b, hi, ha, hb, h => by
    have l1 := mxP_le (frP I) i
    have l2 := rnP_le (frP I) i
    refine ev_iload_n (pc := 6) dX0_longestRun_6 rfl (ev_bipush (pc := 7) (v := (40)) dX0_longestRun_7 bipush_c40 (ev_ncmp_ge (pc := 9) 40 (i) (40) dX0_longestRun_9 (by decide) (rfl) (rfl) (by omega) (by omega) (kt := fun c => absurd c (by omega)) (kf := fun c9 => ev_aload_n (pc := 12) dX0_longestRun_12 rfl (ev_iload_n (pc := 13) dX0_longestRun_13 rfl (ev_invV (pc := 14) kV_0_75 dX0_longestRun_14 rfl rfl rfl (by omega) rfl ?_)))))
    refine t_isFree_n (by omega) ?_
    refine ev_ifb_eq (pc := 17) 26 dX0_longestRun_17 (by decide) (fun c17 => ?_) (fun c17 => ?_)
    · refine ev_iconst (pc := 26) (v := (0)) dX0_longestRun_26 iconst_c0 (ev_istore_n (pc := 27) dX0_longestRun_27 rfl (ev_iload_n (pc := 28) dX0_longestRun_28 rfl (ev_iload_n (pc := 29) dX0_longestRun_29 rfl (ev_max (pc := 30) kM_0_78 dX0_longestRun_30 (by omega) rfl ⟨Nat.le_refl _, Nat.le_refl _⟩ (ev_istore_n (pc := 33) dX0_longestRun_33 rfl (?_))))))
      refine ev_iinc (pc := 34) dX0_longestRun_34 rfl (iinc_1 _) rfl (ev_goto (pc := 37) 6 dX0_longestRun_37 (by decide) (?_))
      have e : (if nI a < (0 : Int32) then (0 : Int32) else nI a) = nI a := if_neg (nI_pos (by omega))
      rw [e]
      exact lp_longestRun hd n (i + 1) a 0 (by omega) (by simp [mxP, rnP, c17, ha]) (by simp [rnP, c17]) h
    · refine ev_iload_n (pc := 20) dX0_longestRun_20 rfl (ev_iconst (pc := 21) (v := (1)) dX0_longestRun_21 iconst_c1 (ev_iadd (pc := 22) dX0_longestRun_22 (ev_goto (pc := 23) 27 dX0_longestRun_23 (by decide) (ev_istore_n (pc := 27) dX0_longestRun_27 rfl (ev_iload_n (pc := 28) dX0_longestRun_28 rfl (ev_iload_n (pc := 29) dX0_longestRun_29 rfl (ev_max (pc := 30) kM_0_78 dX0_longestRun_30 (by omega) rfl ⟨Nat.le_refl _, Nat.le_refl _⟩ (ev_istore_n (pc := 33) dX0_longestRun_33 rfl (?_)))))))))
      refine ev_iinc (pc := 34) dX0_longestRun_34 rfl (iinc_1 _) rfl (ev_goto (pc := 37) 6 dX0_longestRun_37 (by decide) (?_))
      rw [show nI b + 1 = nI (b + 1) from nI_1 b, nI_max (by omega) (by omega)]
      exact lp_longestRun hd n (i + 1) _ (b + 1) (by omega) (by simp [mxP, rnP, c17, ha, hb]) (by simp [rnP, c17, hb]) h
theorem t_X0_longestRun (hd : 1 ≤ d) (h : Q (some (.int (nI (mxP (frP I) 40)))) (I, J, KR p)) : T d me_X0_longestRun [.ref 2] L I J p Q := by
  refine am_enter [some (.ref 2), none, none, none] rfl rfl rfl rfl ?_
  refine ev_iconst (pc := 0) (v := (0)) dX0_longestRun_0 iconst_c0 (ev_istore_n (pc := 1) dX0_longestRun_1 rfl (ev_iconst (pc := 2) (v := (0)) dX0_longestRun_2 iconst_c0 (ev_istore_n (pc := 3) dX0_longestRun_3 rfl (ev_iconst (pc := 4) (v := (0)) dX0_longestRun_4 iconst_c0 (ev_istore_n (pc := 5) dX0_longestRun_5 rfl (?_))))))
  exact lp_longestRun hd 40 0 0 0 rfl rfl rfl h
theorem lp_lowestRun (hd : 1 ≤ d) (len : Nat) (hlen : len < 2 ^ 31) : ∀ (n i b : Nat), i + n = 40 → b = rnP (frP I) i → Q (some (.int ((lrF (frP I) len n i).elim (-1) nI))) (I, J, KR p) → E me_X0_lowestRun d L 4 [some (.ref 2), some (.int (nI len)), some (.int (nI b)), some (.int (nI i))] [] I J p Q
  | 0, i, b, hi, hb, h => by
    refine ev_iload_n (pc := 4) dX0_lowestRun_4 rfl (ev_bipush (pc := 5) (v := (40)) dX0_lowestRun_5 bipush_c40 (ev_ncmp_ge (pc := 7) 43 (i) (40) dX0_lowestRun_7 (by decide) (rfl) (rfl) (by omega) (by omega) (kf := fun c => absurd c (by omega)) (kt := fun c7 => ev_iconst (pc := 43) (v := (-1)) dX0_lowestRun_43 iconst_cm1 (ev_iret (pc := 44) dX0_lowestRun_44 rfl ?_))))
    exact h
  | n + 1, i, b, hi, hb, h => by
    have l2 := rnP_le (frP I) i
    simp only [lrF] at h
    refine ev_iload_n (pc := 4) dX0_lowestRun_4 rfl (ev_bipush (pc := 5) (v := (40)) dX0_lowestRun_5 bipush_c40 (ev_ncmp_ge (pc := 7) 43 (i) (40) dX0_lowestRun_7 (by decide) (rfl) (rfl) (by omega) (by omega) (kt := fun c => absurd c (by omega)) (kf := fun c7 => ev_aload_n (pc := 10) dX0_lowestRun_10 rfl (ev_iload_n (pc := 11) dX0_lowestRun_11 rfl (ev_invV (pc := 12) kV_0_75 dX0_lowestRun_12 rfl rfl rfl (by omega) rfl ?_)))))
    refine t_isFree_n (by omega) ?_
    refine ev_ifb_eq (pc := 15) 24 dX0_lowestRun_15 (by decide) (fun c15 => ?_) (fun c15 => ?_)
    · refine ev_iconst (pc := 24) (v := (0)) dX0_lowestRun_24 iconst_c0 (ev_istore_n (pc := 25) dX0_lowestRun_25 rfl (ev_iload_n (pc := 26) dX0_lowestRun_26 rfl (ev_iload_n (pc := 27) dX0_lowestRun_27 rfl (ev_ncmp_ne (pc := 28) 37 (0) (len) dX0_lowestRun_28 (by decide) (rfl) (rfl) (by omega) (by omega) (fun c28 => ?_) (fun c28 => ?_)))))
      · refine ev_iinc (pc := 37) dX0_lowestRun_37 rfl (iinc_1 _) rfl (ev_goto (pc := 40) 4 dX0_lowestRun_40 (by decide) (?_))
        rw [if_neg (by simp only [rnP, c15]; simpa using c28)] at h
        exact lp_lowestRun hd len hlen n (i + 1) 0 (by omega) (by simp [rnP, c15]) h
      · refine ev_iload_n (pc := 31) dX0_lowestRun_31 rfl (ev_iload_n (pc := 32) dX0_lowestRun_32 rfl (ev_isub (pc := 33) dX0_lowestRun_33 (ev_iconst (pc := 34) (v := (1)) dX0_lowestRun_34 iconst_c1 (ev_iadd (pc := 35) dX0_lowestRun_35 (ev_iret (pc := 36) dX0_lowestRun_36 rfl ?_)))))
        rw [if_pos (by simp only [rnP, c15]; simpa using c28)] at h
        rw [pk_sub (by omega), nI_1, show i - len + 1 = i + 1 - len by omega]
        exact h
    · have e1 : nI b + 1 = nI (b + 1) := nI_1 b
      refine ev_iload_n (pc := 18) dX0_lowestRun_18 rfl (ev_iconst (pc := 19) (v := (1)) dX0_lowestRun_19 iconst_c1 (ev_iadd (pc := 20) dX0_lowestRun_20 (ev_goto (pc := 21) 25 dX0_lowestRun_21 (by decide) (ev_istore_n (pc := 25) dX0_lowestRun_25 rfl (ev_iload_n (pc := 26) dX0_lowestRun_26 rfl (ev_iload_n (pc := 27) dX0_lowestRun_27 rfl (ev_ncmp_ne (pc := 28) 37 (b + 1) (len) dX0_lowestRun_28 (by decide) (e1) (rfl) (by omega) (by omega) (fun c28 => ?_) (fun c28 => ?_))))))))
      · refine ev_iinc (pc := 37) dX0_lowestRun_37 rfl (iinc_1 _) rfl (ev_goto (pc := 40) 4 dX0_lowestRun_40 (by decide) (?_))
        rw [e1]
        rw [if_neg (by simp only [rnP, c15, ← hb]; simpa using c28)] at h
        exact lp_lowestRun hd len hlen n (i + 1) (b + 1) (by omega) (by simp [rnP, c15, hb]) h
      · refine ev_iload_n (pc := 31) dX0_lowestRun_31 rfl (ev_iload_n (pc := 32) dX0_lowestRun_32 rfl (ev_isub (pc := 33) dX0_lowestRun_33 (ev_iconst (pc := 34) (v := (1)) dX0_lowestRun_34 iconst_c1 (ev_iadd (pc := 35) dX0_lowestRun_35 (ev_iret (pc := 36) dX0_lowestRun_36 rfl ?_)))))
        rw [if_pos (by simp only [rnP, c15, ← hb]; simpa using c28)] at h
        rw [show nI i - nI len + 1 = nI (i + 1 - len) by
          rw [show nI i - nI len + 1 = nI i + 1 - nI len by rw [Int32.sub_eq_add_neg, Int32.sub_eq_add_neg, Int32.add_assoc, Int32.add_comm (-nI len), ← Int32.add_assoc], nI_1, pk_sub (by omega)]]
        exact h
theorem t_X0_lowestRun (hd : 1 ≤ d) {len : Nat} (hlen : len < 2 ^ 31) (h : Q (some (.int ((lrF (frP I) len 40 0).elim (-1) nI))) (I, J, KR p)) : T d me_X0_lowestRun [.ref 2, .int (nI len)] L I J p Q := by
  refine am_enter [some (.ref 2), some (.int (nI len)), none, none] rfl rfl rfl rfl ?_
  refine ev_iconst (pc := 0) (v := (0)) dX0_lowestRun_0 iconst_c0 (ev_istore_n (pc := 1) dX0_lowestRun_1 rfl (ev_iconst (pc := 2) (v := (0)) dX0_lowestRun_2 iconst_c0 (ev_istore_n (pc := 3) dX0_lowestRun_3 rfl (?_))))
  exact lp_lowestRun hd len hlen 40 0 0 rfl rfl h
end T15
