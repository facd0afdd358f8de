/-! ===== the reference: changes ===== -/
theorem mul252 : ∀ n, n < 4 → nI 252 * nI n = nI (252 * n) := by decide +kernel
section T45
variable {d L : Nat} {I : Nat → Nat → Int32} {J : Nat → Nat → Int64} {p : Nat → Nat} {Q : Option Value → am_M → Prop}
theorem lp_shift (I : Nat → Nat → Int32) (h : ∀ I', (∀ k, I' 84 k = if k < 756 then I 84 (k + 252) else I 84 k) → (∀ c, c ≠ 84 → I' c = I c) → E me_X8_changes d L 47 [some (.ref 82), some (.int (nI 756))] [] I' J p Q) : ∀ (n i : Nat) (I1 : Nat → Nat → Int32), i + n = 756 → (∀ k, I1 84 k = if k < i then I 84 (k + 252) else I 84 k) → (∀ c, c ≠ 84 → I1 c = I c) → E me_X8_changes d L 18 [some (.ref 82), some (.int (nI i))] [] I1 J p Q
  | 0, i, I1, hi, h1, h2 => by
    have e : i = 756 := by omega
    subst e
    refine ev_iload_n (pc := 18) dX8_changes_18 rfl (ev_sipush (pc := 19) (v := (756)) dX8_changes_19 sipush_c756 (ev_ncmp_ge (pc := 22) 47 (756) (756) dX8_changes_22 (by decide) (rfl) (rfl) (by omega) (by omega) (kf := fun c => absurd c (by omega)) (kt := fun c22 => ?_)))
    exact h I1 h1 h2
  | n + 1, i, I1, hi, h1, h2 => by
    refine ev_iload_n (pc := 18) dX8_changes_18 rfl (ev_sipush (pc := 19) (v := (756)) dX8_changes_19 sipush_c756 (ev_ncmp_ge (pc := 22) 47 (i) (756) dX8_changes_22 (by decide) (rfl) (rfl) (by omega) (by omega) (kt := fun c => absurd c (by omega)) (kf := fun c22 => ?_)))
    refine ev_aload_n (pc := 25) dX8_changes_25 rfl (ev_getr (pc := 26) kF_8_13 dX8_changes_26 rfl rfl rfl (ev_iload_n (pc := 29) dX8_changes_29 rfl (ev_aload_n (pc := 30) dX8_changes_30 rfl (ev_getr (pc := 31) kF_8_13 dX8_changes_31 rfl rfl rfl (ev_iload_n (pc := 34) dX8_changes_34 rfl (ev_sipush (pc := 35) (v := (252)) dX8_changes_35 sipush_c252 (ev_iadd (pc := 38) dX8_changes_38 (ev_iald (pc := 39) (i := i + 252) dX8_changes_39 rfl (nI_add i 252) (by omega) rfl (ev_iast (pc := 40) (i := i) dX8_changes_40 rfl rfl (rfl) (by omega) rfl (ev_iinc (pc := 41) dX8_changes_41 rfl (iinc_1 _) rfl (ev_goto (pc := 44) 18 dX8_changes_44 (by decide) (?_))))))))))))
    refine lp_shift I h n (i + 1) _ (by omega) (fun k => ?_) (fun c hc => ?_)
    · simp only [ui]
      by_cases e : k = i
      · rw [if_pos ⟨trivial, e⟩, h1 (i + 252), if_neg (by omega), if_pos (by omega), e]
      · rw [if_neg (fun q => e q.2), h1 k]
        by_cases e2 : k < i
        · rw [if_pos e2, if_pos (by omega)]
        · rw [if_neg e2, if_neg (by omega)]
    · rw [← h2 c hc]
      funext y
      simp only [ui]
      rw [if_neg (fun q => hc q.1)]
theorem lp_push (I : Nat → Nat → Int32) {m : Nat} (hm : m < 4) (h4 : I 82 4 = nI m) (h : ∀ I', (∀ k, I' 84 k = if 252 * m ≤ k ∧ k < 252 * m + 252 then I 83 (k - 252 * m) else I 84 k) → (∀ c, c ≠ 84 → I' c = I c) → E me_X8_changes d L 93 [some (.ref 82), some (.int (nI 252))] [] I' J p Q) : ∀ (n i : Nat) (I1 : Nat → Nat → Int32), i + n = 252 → (∀ k, I1 84 k = if 252 * m ≤ k ∧ k < 252 * m + i then I 83 (k - 252 * m) else I 84 k) → (∀ c, c ≠ 84 → I1 c = I c) → E me_X8_changes d L 59 [some (.ref 82), some (.int (nI i))] [] I1 J p Q
  | 0, i, I1, hi, h1, h2 => by
    have e : i = 252 := by omega
    subst e
    refine ev_iload_n (pc := 59) dX8_changes_59 rfl (ev_sipush (pc := 60) (v := (252)) dX8_changes_60 sipush_c252 (ev_ncmp_ge (pc := 63) 93 (252) (252) dX8_changes_63 (by decide) (rfl) (rfl) (by omega) (by omega) (kf := fun c => absurd c (by omega)) (kt := fun c63 => ?_)))
    exact h I1 h1 h2
  | n + 1, i, I1, hi, h1, h2 => by
    refine ev_iload_n (pc := 59) dX8_changes_59 rfl (ev_sipush (pc := 60) (v := (252)) dX8_changes_60 sipush_c252 (ev_ncmp_ge (pc := 63) 93 (i) (252) dX8_changes_63 (by decide) (rfl) (rfl) (by omega) (by omega) (kt := fun c => absurd c (by omega)) (kf := fun c63 => ?_)))
    refine ev_aload_n (pc := 66) dX8_changes_66 rfl (ev_getr (pc := 67) kF_8_13 dX8_changes_67 rfl rfl rfl (ev_sipush (pc := 70) (v := (252)) dX8_changes_70 sipush_c252 (ev_aload_n (pc := 73) dX8_changes_73 rfl (ev_geti (pc := 74) kF_8_60 dX8_changes_74 rfl rfl (?_)))))
    rw [h2 82 (by decide), h4]
    refine ev_imul (pc := 77) dX8_changes_77 (ev_iload_n (pc := 78) dX8_changes_78 rfl (?_))
    rw [show (252 : Int32) * nI m = nI (252 * m) from mul252 m hm]
    refine ev_iadd (pc := 79) dX8_changes_79 (ev_aload_n (pc := 80) dX8_changes_80 rfl (ev_getr (pc := 81) kF_8_7 dX8_changes_81 rfl rfl rfl (ev_iload_n (pc := 84) dX8_changes_84 rfl (ev_iald (pc := 85) (i := i) dX8_changes_85 rfl (rfl) (by omega) rfl (ev_iast (pc := 86) (i := 252 * m + i) dX8_changes_86 rfl rfl (nI_add (252 * m) i) (by omega) rfl (ev_iinc (pc := 87) dX8_changes_87 rfl (iinc_1 _) rfl (ev_goto (pc := 90) 59 dX8_changes_90 (by decide) (?_))))))))
    refine lp_push I hm h4 h n (i + 1) _ (by omega) (fun k => ?_) (fun c hc => ?_)
    · simp only [ui]
      by_cases e : k = 252 * m + i
      · rw [if_pos ⟨trivial, e⟩, if_pos (by omega), h2 83 (by decide), show k - 252 * m = i by omega]
      · rw [if_neg (fun q => e q.2), h1 k]
        by_cases e2 : 252 * m ≤ k ∧ k < 252 * m + i
        · rw [if_pos e2, if_pos (by omega)]
        · rw [if_neg e2, if_neg (by omega)]
    · rw [← h2 c hc]
      funext y
      simp only [ui]
      rw [if_neg (fun q => hc q.1)]
end T45
