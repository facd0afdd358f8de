/-! ===== the reference: free pages, copies, changes ===== -/
section T44
variable {d L : Nat} {I : Nat → Nat → Int32} {J : Nat → Nat → Int64} {p : Nat → Nat} {Q : Option Value → am_M → Prop} {D : Nat → Int32}
theorem lp_mfree (hd : 3 ≤ d) (hr : rowM I D) (ho : ownOK D) (h : Q (some (.int (nI (cntB (fD D) 40)))) (I, J, KR p)) : ∀ n i : Nat, i + n = 40 → E me_X8_free d L 4 [some (.ref 82), some (.int (nI (cntB (fD D) i))), some (.int (nI i))] [] I J p Q
  | 0, i, hi => by
    have e : i = 40 := by omega
    subst e
    refine ev_iload_n (pc := 4) dX8_free_4 rfl (ev_bipush (pc := 5) (v := (40)) dX8_free_5 bipush_c40 (ev_ncmp_ge (pc := 7) 32 (40) (40) dX8_free_7 (by decide) (rfl) (rfl) (by omega) (by omega) (kf := fun c => absurd c (by omega)) (kt := fun c7 => ev_iload_n (pc := 32) dX8_free_32 rfl (ev_iret (pc := 33) dX8_free_33 rfl ?_))))
    exact h
  | n + 1, i, hi => by
    have ih := lp_mfree hd hr ho h n (i + 1) (by omega)
    simp only [cntB] at ih
    refine ev_iload_n (pc := 4) dX8_free_4 rfl (ev_bipush (pc := 5) (v := (40)) dX8_free_5 bipush_c40 (ev_ncmp_ge (pc := 7) 32 (i) (40) dX8_free_7 (by decide) (rfl) (rfl) (by omega) (by omega) (kt := fun c => absurd c (by omega)) (kf := fun c7 => ev_iload_n (pc := 10) dX8_free_10 rfl (ev_aload_n (pc := 11) dX8_free_11 rfl (ev_iload_n (pc := 12) dX8_free_12 rfl (ev_invV (pc := 13) kV_8_68 dX8_free_13 rfl rfl rfl (by omega) rfl ?_))))))
    refine m_isFree (by omega) hr ho (by omega) ?_
    rw [decide_eq_true (show i < 40 by omega), Bool.true_and]
    cases f : fD D i
    · rw [f, if_neg (by decide)] at ih
      refine ev_ifb_eq (pc := 16) 23 dX8_free_16 (by decide) (kf := fun c => absurd c (by simp)) (kt := fun c16 => ev_iconst (pc := 23) (v := (0)) dX8_free_23 iconst_c0 (ev_iadd (pc := 24) dX8_free_24 (?_)))
      rw [show nI (cntB (fD D) i) + 0 = nI (cntB (fD D) i + 0) from nI_add _ 0]
      refine ev_istore_n (pc := 25) dX8_free_25 rfl (ev_iinc (pc := 26) dX8_free_26 rfl (iinc_1 _) rfl (ev_goto (pc := 29) 4 dX8_free_29 (by decide) (?_)))
      exact ih
    · rw [f, if_pos rfl] at ih
      refine ev_ifb_eq (pc := 16) 23 dX8_free_16 (by decide) (kt := fun c => absurd c (by simp)) (kf := fun c16 => ev_iconst (pc := 19) (v := (1)) dX8_free_19 iconst_c1 (ev_goto (pc := 20) 24 dX8_free_20 (by decide) (ev_iadd (pc := 24) dX8_free_24 (?_))))
      rw [nI_1]
      refine ev_istore_n (pc := 25) dX8_free_25 rfl (ev_iinc (pc := 26) dX8_free_26 rfl (iinc_1 _) rfl (ev_goto (pc := 29) 4 dX8_free_29 (by decide) (?_)))
      exact ih
theorem m_free (hd : 3 ≤ d) (hr : rowM I D) (ho : ownOK D) (h : Q (some (.int (nI (cntB (fD D) 40)))) (I, J, KR p)) : T d me_X8_free [.ref 82] L I J p Q := by
  refine am_enter [some (.ref 82), none, none] rfl rfl rfl rfl ?_
  refine ev_iconst (pc := 0) (v := (0)) dX8_free_0 iconst_c0 (ev_istore_n (pc := 1) dX8_free_1 rfl (ev_iconst (pc := 2) (v := (0)) dX8_free_2 iconst_c0 (ev_istore_n (pc := 3) dX8_free_3 rfl (?_))))
  exact lp_mfree hd hr ho h 40 0 rfl
theorem lp_mcopies_83_86 (I : Nat → Nat → Int32) (h : ∀ I', (∀ i, i < 252 → I' 86 i = I 83 i) → (∀ c, c ≠ 86 → I' c = I c) → Q none (I', J, KR p)) : ∀ (n i : Nat) (I1 : Nat → Nat → Int32), i + n = 252 → (∀ k, k < i → I1 86 k = I 83 k) → (∀ c, c ≠ 86 → I1 c = I c) → E me_X8_copies d L 2 [some (.ref 83), some (.ref 86), some (.int (nI i))] [] I1 J p Q
  | 0, i, I1, hi, h1, h2 => by
    refine ev_iload_n (pc := 2) dX8_copies_2 rfl (ev_sipush (pc := 3) (v := (252)) dX8_copies_3 sipush_c252 (ev_ncmp_ge (pc := 6) 21 (i) (252) dX8_copies_6 (by decide) (rfl) (rfl) (by omega) (by omega) (kf := fun c => absurd c (by omega)) (kt := fun c6 => ev_vret (pc := 21) dX8_copies_21 rfl ?_)))
    exact h I1 (fun k hk => h1 k (by omega)) h2
  | n + 1, i, I1, hi, h1, h2 => by
    refine ev_iload_n (pc := 2) dX8_copies_2 rfl (ev_sipush (pc := 3) (v := (252)) dX8_copies_3 sipush_c252 (ev_ncmp_ge (pc := 6) 21 (i) (252) dX8_copies_6 (by decide) (rfl) (rfl) (by omega) (by omega) (kt := fun c => absurd c (by omega)) (kf := fun c6 => ?_)))
    refine ev_aload_n (pc := 9) dX8_copies_9 rfl (ev_iload_n (pc := 10) dX8_copies_10 rfl (ev_aload_n (pc := 11) dX8_copies_11 rfl (ev_iload_n (pc := 12) dX8_copies_12 rfl (ev_iald (pc := 13) (i := i) dX8_copies_13 rfl (rfl) (by omega) rfl (ev_iast (pc := 14) (i := i) dX8_copies_14 rfl rfl (rfl) (by omega) rfl (ev_iinc (pc := 15) dX8_copies_15 rfl (iinc_1 _) rfl (ev_goto (pc := 18) 2 dX8_copies_18 (by decide) (?_))))))))
    refine lp_mcopies_83_86 I h n (i + 1) _ (by omega) (fun k hk => ?_) (fun c hc => ?_)
    · simp only [ui]
      by_cases e : k = i
      · rw [if_pos ⟨trivial, e⟩, h2 83 (by decide), e]
      · rw [if_neg (fun q => e q.2)]
        exact h1 k (by omega)
    · rw [← h2 c hc]
      funext y
      simp only [ui]
      rw [if_neg (fun q => hc q.1)]
theorem m_copies_83_86 (h : ∀ I', (∀ i, i < 252 → I' 86 i = I 83 i) → (∀ c, c ≠ 86 → I' c = I c) → Q none (I', J, KR p)) : T d me_X8_copies [.ref 83, .ref 86] L I J p Q := by
  refine am_enter [some (.ref 83), some (.ref 86), none] rfl rfl rfl rfl ?_
  refine ev_iconst (pc := 0) (v := (0)) dX8_copies_0 iconst_c0 (ev_istore_n (pc := 1) dX8_copies_1 rfl (?_))
  exact lp_mcopies_83_86 I h 252 0 I rfl (fun k hk => absurd hk (Nat.not_lt_zero _)) (fun _ _ => rfl)
theorem lp_mcopies_86_83 (I : Nat → Nat → Int32) (h : ∀ I', (∀ i, i < 252 → I' 83 i = I 86 i) → (∀ c, c ≠ 83 → I' c = I c) → Q none (I', J, KR p)) : ∀ (n i : Nat) (I1 : Nat → Nat → Int32), i + n = 252 → (∀ k, k < i → I1 83 k = I 86 k) → (∀ c, c ≠ 83 → I1 c = I c) → E me_X8_copies d L 2 [some (.ref 86), some (.ref 83), some (.int (nI i))] [] I1 J p Q
  | 0, i, I1, hi, h1, h2 => by
    refine ev_iload_n (pc := 2) dX8_copies_2 rfl (ev_sipush (pc := 3) (v := (252)) dX8_copies_3 sipush_c252 (ev_ncmp_ge (pc := 6) 21 (i) (252) dX8_copies_6 (by decide) (rfl) (rfl) (by omega) (by omega) (kf := fun c => absurd c (by omega)) (kt := fun c6 => ev_vret (pc := 21) dX8_copies_21 rfl ?_)))
    exact h I1 (fun k hk => h1 k (by omega)) h2
  | n + 1, i, I1, hi, h1, h2 => by
    refine ev_iload_n (pc := 2) dX8_copies_2 rfl (ev_sipush (pc := 3) (v := (252)) dX8_copies_3 sipush_c252 (ev_ncmp_ge (pc := 6) 21 (i) (252) dX8_copies_6 (by decide) (rfl) (rfl) (by omega) (by omega) (kt := fun c => absurd c (by omega)) (kf := fun c6 => ?_)))
    refine ev_aload_n (pc := 9) dX8_copies_9 rfl (ev_iload_n (pc := 10) dX8_copies_10 rfl (ev_aload_n (pc := 11) dX8_copies_11 rfl (ev_iload_n (pc := 12) dX8_copies_12 rfl (ev_iald (pc := 13) (i := i) dX8_copies_13 rfl (rfl) (by omega) rfl (ev_iast (pc := 14) (i := i) dX8_copies_14 rfl rfl (rfl) (by omega) rfl (ev_iinc (pc := 15) dX8_copies_15 rfl (iinc_1 _) rfl (ev_goto (pc := 18) 2 dX8_copies_18 (by decide) (?_))))))))
    refine lp_mcopies_86_83 I h n (i + 1) _ (by omega) (fun k hk => ?_) (fun c hc => ?_)
    · simp only [ui]
      by_cases e : k = i
      · rw [if_pos ⟨trivial, e⟩, h2 86 (by decide), e]
      · rw [if_neg (fun q => e q.2)]
        exact h1 k (by omega)
    · rw [← h2 c hc]
      funext y
      simp only [ui]
      rw [if_neg (fun q => hc q.1)]
theorem m_copies_86_83 (h : ∀ I', (∀ i, i < 252 → I' 83 i = I 86 i) → (∀ c, c ≠ 83 → I' c = I c) → Q none (I', J, KR p)) : T d me_X8_copies [.ref 86, .ref 83] L I J p Q := by
  refine am_enter [some (.ref 86), some (.ref 83), none] rfl rfl rfl rfl ?_
  refine ev_iconst (pc := 0) (v := (0)) dX8_copies_0 iconst_c0 (ev_istore_n (pc := 1) dX8_copies_1 rfl (?_))
  exact lp_mcopies_86_83 I h 252 0 I rfl (fun k hk => absurd hk (Nat.not_lt_zero _)) (fun _ _ => rfl)
theorem lp_mcopies_83_85 (I : Nat → Nat → Int32) (h : ∀ I', (∀ i, i < 252 → I' 85 i = I 83 i) → (∀ c, c ≠ 85 → I' c = I c) → Q none (I', J, KR p)) : ∀ (n i : Nat) (I1 : Nat → Nat → Int32), i + n = 252 → (∀ k, k < i → I1 85 k = I 83 k) → (∀ c, c ≠ 85 → I1 c = I c) → E me_X8_copies d L 2 [some (.ref 83), some (.ref 85), some (.int (nI i))] [] I1 J p Q
  | 0, i, I1, hi, h1, h2 => by
    refine ev_iload_n (pc := 2) dX8_copies_2 rfl (ev_sipush (pc := 3) (v := (252)) dX8_copies_3 sipush_c252 (ev_ncmp_ge (pc := 6) 21 (i) (252) dX8_copies_6 (by decide) (rfl) (rfl) (by omega) (by omega) (kf := fun c => absurd c (by omega)) (kt := fun c6 => ev_vret (pc := 21) dX8_copies_21 rfl ?_)))
    exact h I1 (fun k hk => h1 k (by omega)) h2
  | n + 1, i, I1, hi, h1, h2 => by
    refine ev_iload_n (pc := 2) dX8_copies_2 rfl (ev_sipush (pc := 3) (v := (252)) dX8_copies_3 sipush_c252 (ev_ncmp_ge (pc := 6) 21 (i) (252) dX8_copies_6 (by decide) (rfl) (rfl) (by omega) (by omega) (kt := fun c => absurd c (by omega)) (kf := fun c6 => ?_)))
    refine ev_aload_n (pc := 9) dX8_copies_9 rfl (ev_iload_n (pc := 10) dX8_copies_10 rfl (ev_aload_n (pc := 11) dX8_copies_11 rfl (ev_iload_n (pc := 12) dX8_copies_12 rfl (ev_iald (pc := 13) (i := i) dX8_copies_13 rfl (rfl) (by omega) rfl (ev_iast (pc := 14) (i := i) dX8_copies_14 rfl rfl (rfl) (by omega) rfl (ev_iinc (pc := 15) dX8_copies_15 rfl (iinc_1 _) rfl (ev_goto (pc := 18) 2 dX8_copies_18 (by decide) (?_))))))))
    refine lp_mcopies_83_85 I h n (i + 1) _ (by omega) (fun k hk => ?_) (fun c hc => ?_)
    · simp only [ui]
      by_cases e : k = i
      · rw [if_pos ⟨trivial, e⟩, h2 83 (by decide), e]
      · rw [if_neg (fun q => e q.2)]
        exact h1 k (by omega)
    · rw [← h2 c hc]
      funext y
      simp only [ui]
      rw [if_neg (fun q => hc q.1)]
theorem m_copies_83_85 (h : ∀ I', (∀ i, i < 252 → I' 85 i = I 83 i) → (∀ c, c ≠ 85 → I' c = I c) → Q none (I', J, KR p)) : T d me_X8_copies [.ref 83, .ref 85] L I J p Q := by
  refine am_enter [some (.ref 83), some (.ref 85), none] rfl rfl rfl rfl ?_
  refine ev_iconst (pc := 0) (v := (0)) dX8_copies_0 iconst_c0 (ev_istore_n (pc := 1) dX8_copies_1 rfl (?_))
  exact lp_mcopies_83_85 I h 252 0 I rfl (fun k hk => absurd hk (Nat.not_lt_zero _)) (fun _ _ => rfl)
theorem lp_mcopies_85_83 (I : Nat → Nat → Int32) (h : ∀ I', (∀ i, i < 252 → I' 83 i = I 85 i) → (∀ c, c ≠ 83 → I' c = I c) → Q none (I', J, KR p)) : ∀ (n i : Nat) (I1 : Nat → Nat → Int32), i + n = 252 → (∀ k, k < i → I1 83 k = I 85 k) → (∀ c, c ≠ 83 → I1 c = I c) → E me_X8_copies d L 2 [some (.ref 85), some (.ref 83), some (.int (nI i))] [] I1 J p Q
  | 0, i, I1, hi, h1, h2 => by
    refine ev_iload_n (pc := 2) dX8_copies_2 rfl (ev_sipush (pc := 3) (v := (252)) dX8_copies_3 sipush_c252 (ev_ncmp_ge (pc := 6) 21 (i) (252) dX8_copies_6 (by decide) (rfl) (rfl) (by omega) (by omega) (kf := fun c => absurd c (by omega)) (kt := fun c6 => ev_vret (pc := 21) dX8_copies_21 rfl ?_)))
    exact h I1 (fun k hk => h1 k (by omega)) h2
  | n + 1, i, I1, hi, h1, h2 => by
    refine ev_iload_n (pc := 2) dX8_copies_2 rfl (ev_sipush (pc := 3) (v := (252)) dX8_copies_3 sipush_c252 (ev_ncmp_ge (pc := 6) 21 (i) (252) dX8_copies_6 (by decide) (rfl) (rfl) (by omega) (by omega) (kt := fun c => absurd c (by omega)) (kf := fun c6 => ?_)))
    refine ev_aload_n (pc := 9) dX8_copies_9 rfl (ev_iload_n (pc := 10) dX8_copies_10 rfl (ev_aload_n (pc := 11) dX8_copies_11 rfl (ev_iload_n (pc := 12) dX8_copies_12 rfl (ev_iald (pc := 13) (i := i) dX8_copies_13 rfl (rfl) (by omega) rfl (ev_iast (pc := 14) (i := i) dX8_copies_14 rfl rfl (rfl) (by omega) rfl (ev_iinc (pc := 15) dX8_copies_15 rfl (iinc_1 _) rfl (ev_goto (pc := 18) 2 dX8_copies_18 (by decide) (?_))))))))
    refine lp_mcopies_85_83 I h n (i + 1) _ (by omega) (fun k hk => ?_) (fun c hc => ?_)
    · simp only [ui]
      by_cases e : k = i
      · rw [if_pos ⟨trivial, e⟩, h2 85 (by decide), e]
      · rw [if_neg (fun q => e q.2)]
        exact h1 k (by omega)
    · rw [← h2 c hc]
      funext y
      simp only [ui]
      rw [if_neg (fun q => hc q.1)]
theorem m_copies_85_83 (h : ∀ I', (∀ i, i < 252 → I' 83 i = I 85 i) → (∀ c, c ≠ 83 → I' c = I c) → Q none (I', J, KR p)) : T d me_X8_copies [.ref 85, .ref 83] L I J p Q := by
  refine am_enter [some (.ref 85), some (.ref 83), none] rfl rfl rfl rfl ?_
  refine ev_iconst (pc := 0) (v := (0)) dX8_copies_0 iconst_c0 (ev_istore_n (pc := 1) dX8_copies_1 rfl (?_))
  exact lp_mcopies_85_83 I h 252 0 I rfl (fun k hk => absurd hk (Nat.not_lt_zero _)) (fun _ _ => rfl)
end T44
