/-! ===== the reference: names of guesses, what they share, sums ===== -/
def anB (R : Nat → Bool) (ps : List Nat) : Nat → Bool
  | 0 => false
  | i + 1 => anB R ps i || R (ps.getD i 0)
theorem anB_iff {R : Nat → Bool} {ps : List Nat} : ∀ n, anB R ps n = true ↔ ∃ k, k < n ∧ R (ps.getD k 0) = true
  | 0 => by simp [anB]
  | n + 1 => by
    simp only [anB, Bool.or_eq_true, anB_iff n]
    constructor
    · rintro (⟨k, h1, h2⟩ | h)
      · exact ⟨k, by omega, h2⟩
      · exact ⟨n, by omega, h⟩
    · rintro ⟨k, h1, h2⟩
      by_cases e : k = n
      · exact Or.inr (e ▸ h2)
      · exact Or.inl ⟨k, by omega, h2⟩
theorem anB_any {R : Nat → Bool} {ps : List Nat} : anB R ps ps.length = ps.any R := by
  rw [Bool.eq_iff_iff, anB_iff, List.any_eq_true]
  exact ⟨fun ⟨k, h1, h2⟩ => ⟨_, getD_mem h1, h2⟩, fun ⟨x, h1, h2⟩ => by
    obtain ⟨k, k1, k2⟩ := mem_getD h1
    exact ⟨k, k1, by rw [k2]; exact h2⟩⟩
/-- two rows share a page -/
def mt (a b : List Nat) : Bool := a.any fun j => decide (j ∈ b)
theorem mt_iff {a b : List Nat} : mt a b = true ↔ ∃ j, j ∈ a ∧ j ∈ b := by
  unfold mt
  rw [List.any_eq_true]
  exact ⟨fun ⟨x, h1, h2⟩ => ⟨x, h1, of_decide_eq_true h2⟩, fun ⟨x, h1, h2⟩ => ⟨x, h1, decide_eq_true h2⟩⟩
theorem mt_comm {a b : List Nat} : mt a b = mt b a := by
  rw [Bool.eq_iff_iff, mt_iff, mt_iff]
  exact ⟨fun ⟨x, h1, h2⟩ => ⟨x, h2, h1⟩, fun ⟨x, h1, h2⟩ => ⟨x, h2, h1⟩⟩
theorem cntB_ne {P : Nat → Bool} {g : Nat} (hg : P g = true) : ∀ n, cntB (fun k => decide (k ≠ g) && P k) n + (if g < n then 1 else 0) = cntB P n
  | 0 => by simp [cntB]
  | n + 1 => by
    have ih := cntB_ne hg n
    show cntB (fun k => decide (k ≠ g) && P k) n + (if (decide (n ≠ g) && P n) = true then 1 else 0) + _ = cntB P n + (if P n = true then 1 else 0)
    by_cases e : n = g
    · subst e
      rw [decide_eq_false (fun q => q rfl), Bool.false_and, if_neg (by decide), if_pos (by omega), if_pos hg]
      rw [if_neg (by omega)] at ih
      omega
    · rw [decide_eq_true e, Bool.true_and]
      by_cases c : g < n
      · rw [if_pos (show g < n + 1 by omega)]
        rw [if_pos c] at ih
        omega
      · rw [if_neg (show ¬ g < n + 1 by omega)]
        rw [if_neg c] at ih
        omega
theorem sum_eq {D : Nat → Int32} : sumD D (fD D) = sL (scD D (fD D)) (flD D) := by
  unfold sumD
  rw [foldl_sL, Int32.zero_add]
  exact (sL_fl 40).symm
theorem shr_eq {D : Nat → Int32} {g k : Nat} (hk : k < (flD D).length) (e : (flD D).getD k 0 = (glD D (fD D)).getD g 0) (hne : 1 ≤ (pgD D (fD D) ((flD D).getD k 0)).length) : cntB (fun j => decide (j ≠ k) && mt (pgD D (fD D) ((flD D).getD k 0)) (pgD D (fD D) ((flD D).getD j 0))) (flD D).length + 1 = shrV D g := by
  have h := cntB_ne (P := fun j => mt (pgD D (fD D) ((flD D).getD k 0)) (pgD D (fD D) ((flD D).getD j 0))) (g := k) (mt_iff.mpr ⟨_, getD_mem hne, getD_mem hne⟩) (flD D).length
  rw [if_pos hk] at h
  rw [h]
  have e1 : cntB (fun j => mt (pgD D (fD D) ((flD D).getD k 0)) (pgD D (fD D) ((flD D).getD j 0))) (flD D).length = cL (fun y => mt (pgD D (fD D) ((flD D).getD k 0)) (pgD D (fD D) y)) (flD D) := cnt_all (R := fun y => mt (pgD D (fD D) ((flD D).getD k 0)) (pgD D (fD D) y))
  have e2 : shrV D g = cL (fun y => mt (pgD D (fD D) y) (pgD D (fD D) ((glD D (fD D)).getD g 0))) (glD D (fD D)) := cnt_all (R := fun y => mt (pgD D (fD D) y) (pgD D (fD D) ((glD D (fD D)).getD g 0)))
  rw [e1, e2, e]
  have e3 : (fun y => mt (pgD D (fD D) ((glD D (fD D)).getD g 0)) (pgD D (fD D) y)) = fun y => mt (pgD D (fD D) y) (pgD D (fD D) ((glD D (fD D)).getD g 0)) := funext fun y => mt_comm
  rw [e3]
  exact cL_fl 40
theorem has_eq {D : Nat → Int32} {j : Nat} : cntB (fun k => decide (j ∈ pgD D (fD D) ((flD D).getD k 0))) (flD D).length = hasV D j := by
  have e1 : cntB (fun k => decide (j ∈ pgD D (fD D) ((flD D).getD k 0))) (flD D).length = cL (fun y => decide (j ∈ pgD D (fD D) y)) (flD D) := cnt_all (R := fun y => decide (j ∈ pgD D (fD D) y))
  have e2 : hasV D j = cL (fun y => (pgD D (fD D) y).any fun q => decide (q = j)) (glD D (fD D)) := cnt_all (R := fun y => (pgD D (fD D) y).any fun q => decide (q = j))
  rw [e1, e2]
  have e3 : (fun y => (pgD D (fD D) y).any fun q => decide (q = j)) = fun y => decide (j ∈ pgD D (fD D) y) := funext fun y => by
    rw [Bool.eq_iff_iff, List.any_eq_true, decide_eq_true_eq]
    exact ⟨fun ⟨x, h1, h2⟩ => of_decide_eq_true h2 ▸ h1, fun h => ⟨j, h, decide_eq_true rfl⟩⟩
  rw [e3]
  exact cL_fl 40
section T59
variable {d L : Nat} {I : Nat → Nat → Int32} {J : Nat → Nat → Int64} {p : Nat → Nat} {Q : Option Value → am_M → Prop} {D : Nat → Int32}
/-- what is known of guess g -/
theorem ga_at (hw : wfG D) (hA : gaA D I (flD D)) {g : Nat} (hg : g < (flD D).length) : g < 40 ∧ gaE D I g ((flD D).getD g 0) ∧ (flD D).getD g 0 < 40 ∧ rowOK (fD D) (pgD D (fD D) ((flD D).getD g 0)) ∧ 1 ≤ (pgD D (fD D) ((flD D).getD g 0)).length ∧ (pgD D (fD D) ((flD D).getD g 0)).length ≤ 12 ∧ (∀ q ∈ pgD D (fD D) ((flD D).getD g 0), q < 40) ∧ D ((flD D).getD g 0) = 1 := by
  obtain ⟨m1, m2, m3⟩ := fp_mem (getD_mem hg)
  have pl := pgG hw m1 m3 m2
  have hl := fl_len40 (D := D) (n := 40) (Nat.le_refl _)
  have hg' : g < (flP (fpD D (fD D)) 40).length := hg
  exact ⟨by omega, hA.2 g hg, m1, pl.1, pl.2.1, Nat.le_trans pl.2.2.1 pl.2.2.2.2.2.2, fun q hq => (pl.1.2 q hq).1, m3⟩
theorem m_nameOf (hd : 2 ≤ d) (hr : rowM I D) (hw : wfG D) (hA : gaA D I (flD D)) {g : Nat} (hg : g < (flD D).length) (h : Q (some (.int ((nmD D ((flD D).getD g 0)).elim (-1000004) fun k => D (230 + 3 * k)))) (I, J, KR p)) : T d me_X8_nameOf [.ref 82, .int (nI g)] L I J p Q := by
  refine am_enter [some (.ref 82), some (.int (nI g)), none, none] rfl rfl rfl rfl ?_
  obtain ⟨g40, ge, f40, _, _, _, _, _⟩ := ga_at hw hA hg
  generalize (flD D).getD g 0 = f at ge f40 h
  have hz := hw.2.2.2.2
  unfold nmD at h
  have fin : ∀ m, m < zD D → Q (some (.int (D (230 + 3 * m)))) (I, J, KR p) → E me_X8_nameOf d L 41 [some (.ref 82), some (.int (nI g)), some (.int (D (40 + f))), some (.int (nI m))] [.int (nI m)] I J p Q ∧ ∀ o, E me_X8_nameOf d L 41 [some (.ref 82), some (.int (nI g)), some (.int (D (40 + f))), o] [.int (nI m)] I J p Q := by
    intro m hm hq
    have : ∀ o, E me_X8_nameOf d L 41 [some (.ref 82), some (.int (nI g)), some (.int (D (40 + f))), o] [.int (nI m)] I J p Q := by
      intro o
      refine ev_istore_n (pc := 41) dX8_nameOf_41 rfl (ev_iload_n (pc := 42) dX8_nameOf_42 rfl (ev_if_ge (pc := 43) 51 dX8_nameOf_43 (by decide) (kf := fun c => absurd (nI_pos' (by omega)) c) (kt := fun c43 => ev_aload_n (pc := 51) dX8_nameOf_51 rfl (ev_getr (pc := 52) kF_8_7 dX8_nameOf_52 rfl rfl rfl (ev_sipush (pc := 55) (v := (230)) dX8_nameOf_55 sipush_c230 (ev_iconst (pc := 58) (v := (3)) dX8_nameOf_58 iconst_c3 (ev_iload_n (pc := 59) dX8_nameOf_59 rfl (ev_imul (pc := 60) dX8_nameOf_60 (?_)))))))))
      rw [mul3 m (by omega)]
      refine ev_iadd (pc := 61) dX8_nameOf_61 (ev_iald (pc := 62) (i := 230 + 3 * m) dX8_nameOf_62 rfl (nI_add 230 _) (by omega) rfl (?_))
      rw [hr _ (by omega)]
      refine ev_iret (pc := 63) dX8_nameOf_63 rfl ?_
      exact hq
    exact ⟨this _, this⟩
  refine ev_aload_n (pc := 0) dX8_nameOf_0 rfl (ev_getr (pc := 1) kF_8_7 dX8_nameOf_1 rfl rfl rfl (ev_bipush (pc := 4) (v := (40)) dX8_nameOf_4 bipush_c40 (ev_aload_n (pc := 6) dX8_nameOf_6 rfl (ev_getr (pc := 7) kF_8_28 dX8_nameOf_7 rfl rfl rfl (ev_iload_n (pc := 10) dX8_nameOf_10 rfl (ev_iald (pc := 11) (i := g) dX8_nameOf_11 rfl (rfl) (by omega) rfl (?_)))))))
  rw [ge.1]
  refine ev_iadd (pc := 12) dX8_nameOf_12 (ev_iald (pc := 13) (i := 40 + f) dX8_nameOf_13 rfl (nI_add 40 f) (by omega) rfl (?_))
  rw [hr _ (by omega)]
  refine ev_istore_n (pc := 14) dX8_nameOf_14 rfl (ev_aload_n (pc := 15) dX8_nameOf_15 rfl (ev_iload_n (pc := 16) dX8_nameOf_16 rfl (ev_aload_n (pc := 17) dX8_nameOf_17 rfl (ev_getr (pc := 18) kF_8_28 dX8_nameOf_18 rfl rfl rfl (ev_iload_n (pc := 21) dX8_nameOf_21 rfl (ev_iald (pc := 22) (i := g) dX8_nameOf_22 rfl (rfl) (by omega) rfl (?_)))))))
  rw [ge.1]
  refine ev_invV (pc := 23) kV_8_116 dX8_nameOf_23 rfl rfl rfl (by omega) rfl ?_
  refine m_entry hr hw f40 ?_
  cases q1 : jwD D (nI f) (D (40 + f)) with
  | some m =>
    have := fstP_some q1
    rw [q1] at h
    simp only [Option.elim_some] at h ⊢
    refine ev_istore_n (pc := 26) dX8_nameOf_26 rfl (ev_iload_n (pc := 27) dX8_nameOf_27 rfl (ev_if_ge (pc := 28) 40 dX8_nameOf_28 (by decide) (kf := fun c => absurd (nI_pos' (by omega)) c) (kt := fun c28 => ev_iload_n (pc := 40) dX8_nameOf_40 rfl (?_))))
    exact (fin m (by omega) h).1
  | none =>
    rw [q1] at h
    simp only [Option.elim_none]
    refine ev_istore_n (pc := 26) dX8_nameOf_26 rfl (ev_iload_n (pc := 27) dX8_nameOf_27 rfl (ev_if_ge (pc := 28) 40 dX8_nameOf_28 (by decide) (kt := fun c => absurd c (by decide)) (kf := fun c28 => ev_aload_n (pc := 31) dX8_nameOf_31 rfl (ev_iload_n (pc := 32) dX8_nameOf_32 rfl (ev_iconst (pc := 33) (v := (-1)) dX8_nameOf_33 iconst_cm1 (ev_invV (pc := 34) kV_8_116 dX8_nameOf_34 rfl rfl rfl (by omega) rfl ?_))))))
    refine m_entryS hr hw ?_
    cases q2 : jsD D (D (40 + f)) with
    | some m =>
      have := fstP_some q2
      rw [q2] at h
      simp only [Option.elim_some] at h ⊢
      refine ev_goto (pc := 37) 41 dX8_nameOf_37 (by decide) (?_)
      exact (fin m (by omega) h).2 _
    | none =>
      rw [q2] at h
      simp only [Option.elim_none] at h ⊢
      refine ev_goto (pc := 37) 41 dX8_nameOf_37 (by decide) (ev_istore_n (pc := 41) dX8_nameOf_41 rfl (ev_iload_n (pc := 42) dX8_nameOf_42 rfl (ev_if_ge (pc := 43) 51 dX8_nameOf_43 (by decide) (kt := fun c => absurd c (by decide)) (kf := fun c43 => ev_ldc (pc := 46) kC_8_71 dX8_nameOf_46 (ev_goto (pc := 48) 63 dX8_nameOf_48 (by decide) (ev_iret (pc := 63) dX8_nameOf_63 rfl ?_))))))
      exact h
theorem lp_mshare (hd : 1 ≤ d) {g k : Nat} {pa pb : List Nat} (hg : g < 40) (hk : k < 40) (ga : gu I g pa) (gb : gu I k pb) (la : pa.length ≤ 12) (lb : pb.length ≤ 12) (ha : ∀ q ∈ pa, q < 40) (hb : ∀ q ∈ pb, q < 40) (h : Q (some (.int (bI (mt pa pb)))) (I, J, KR p)) : ∀ n i, i + n = pa.length → E me_X8_share d L 5 [some (.ref 82), some (.int (nI g)), some (.int (nI k)), some (.int (bI (anB (fun j => decide (j ∈ pb)) pa i))), some (.int (nI i))] [] I J p Q
  | 0, i, hi => by
    have e : i = pa.length := by omega
    subst e
    rw [anB_any]
    refine ev_iload (pc := 5) dX8_share_5 rfl (ev_aload_n (pc := 7) dX8_share_7 rfl (ev_getr (pc := 8) kF_8_31 dX8_share_8 rfl rfl rfl (ev_iload_n (pc := 11) dX8_share_11 rfl (ev_iald (pc := 12) (i := g) dX8_share_12 rfl (rfl) (by omega) rfl (ev_ncmp_ge (pc := 13) 52 (pa.length) (pa.length) dX8_share_13 (by decide) (rfl) (ga.1) (by omega) (by omega) (kf := fun c => absurd c (by omega)) (kt := fun c13 => ev_iload_n (pc := 52) dX8_share_52 rfl (ev_zret (pc := 53) dX8_share_53 rfl (bI_01 _) ?_)))))))
    exact h
  | n + 1, i, hi => by
    have ih := lp_mshare hd hg hk ga gb la lb ha hb h n (i + 1) (by omega)
    have hq : pa.getD i 0 < 40 := ha _ (getD_mem (by omega))
    simp only [anB] at ih
    refine ev_iload (pc := 5) dX8_share_5 rfl (ev_aload_n (pc := 7) dX8_share_7 rfl (ev_getr (pc := 8) kF_8_31 dX8_share_8 rfl rfl rfl (ev_iload_n (pc := 11) dX8_share_11 rfl (ev_iald (pc := 12) (i := g) dX8_share_12 rfl (rfl) (by omega) rfl (ev_ncmp_ge (pc := 13) 52 (i) (pa.length) dX8_share_13 (by decide) (rfl) (ga.1) (by omega) (by omega) (kt := fun c => absurd c (by omega)) (kf := fun c13 => ev_iload_n (pc := 16) dX8_share_16 rfl (?_)))))))
    cases q : anB (fun j => decide (j ∈ pb)) pa i
    · rw [q, Bool.false_or] at ih
      have hx : (12 : Int32) * nI g + nI i = nI (12 * g + i) := by rw [mul12 g hg]; exact nI_add _ _
      refine ev_ifb_ne (pc := 17) 40 dX8_share_17 (by decide) (kt := fun c => absurd c (by simp)) (kf := fun c17 => ev_aload_n (pc := 20) dX8_share_20 rfl (ev_iload_n (pc := 21) dX8_share_21 rfl (ev_aload_n (pc := 22) dX8_share_22 rfl (ev_getr (pc := 23) kF_8_43 dX8_share_23 rfl rfl rfl (ev_bipush (pc := 26) (v := (12)) dX8_share_26 bipush_c12 (ev_iload_n (pc := 28) dX8_share_28 rfl (ev_imul (pc := 29) dX8_share_29 (ev_iload (pc := 30) dX8_share_30 rfl (ev_iadd (pc := 32) dX8_share_32 (ev_iald (pc := 33) (i := 12 * g + i) dX8_share_33 rfl (hx) (by omega) rfl (?_)))))))))))
      rw [ga.2 i (by omega)]
      refine ev_invV (pc := 34) kV_8_107 dX8_share_34 rfl rfl rfl (by omega) rfl ?_
      refine m_isFound hk gb lb hb hq ?_
      by_cases c : pa.getD i 0 ∈ pb
      · rw [decide_eq_true c] at ih ⊢
        refine ev_ifb_eq (pc := 37) 44 dX8_share_37 (by decide) (kt := fun c => absurd c (by simp)) (kf := fun c37 => ev_iconst (pc := 40) (v := (1)) dX8_share_40 iconst_c1 (ev_goto (pc := 41) 45 dX8_share_41 (by decide) (ev_istore_n (pc := 45) dX8_share_45 rfl (ev_iinc (pc := 46) dX8_share_46 rfl (iinc_1 _) rfl (ev_goto (pc := 49) 5 dX8_share_49 (by decide) (?_))))))
        exact ih
      · rw [decide_eq_false c] at ih ⊢
        refine ev_ifb_eq (pc := 37) 44 dX8_share_37 (by decide) (kf := fun c => absurd c (by simp)) (kt := fun c37 => ev_iconst (pc := 44) (v := (0)) dX8_share_44 iconst_c0 (ev_istore_n (pc := 45) dX8_share_45 rfl (ev_iinc (pc := 46) dX8_share_46 rfl (iinc_1 _) rfl (ev_goto (pc := 49) 5 dX8_share_49 (by decide) (?_)))))
        exact ih
    · rw [q, Bool.true_or] at ih
      refine ev_ifb_ne (pc := 17) 40 dX8_share_17 (by decide) (kf := fun c => absurd c (by simp)) (kt := fun c17 => ev_iconst (pc := 40) (v := (1)) dX8_share_40 iconst_c1 (ev_goto (pc := 41) 45 dX8_share_41 (by decide) (ev_istore_n (pc := 45) dX8_share_45 rfl (ev_iinc (pc := 46) dX8_share_46 rfl (iinc_1 _) rfl (ev_goto (pc := 49) 5 dX8_share_49 (by decide) (?_))))))
      exact ih
theorem m_share (hd : 1 ≤ d) {g k : Nat} {pa pb : List Nat} (hg : g < 40) (hk : k < 40) (ga : gu I g pa) (gb : gu I k pb) (la : pa.length ≤ 12) (lb : pb.length ≤ 12) (ha : ∀ q ∈ pa, q < 40) (hb : ∀ q ∈ pb, q < 40) (h : Q (some (.int (bI (mt pa pb)))) (I, J, KR p)) : T d me_X8_share [.ref 82, .int (nI g), .int (nI k)] L I J p Q := by
  refine am_enter [some (.ref 82), some (.int (nI g)), some (.int (nI k)), none, none] rfl rfl rfl rfl ?_
  refine ev_iconst (pc := 0) (v := (0)) dX8_share_0 iconst_c0 (ev_istore_n (pc := 1) dX8_share_1 rfl (ev_iconst (pc := 2) (v := (0)) dX8_share_2 iconst_c0 (ev_istore (pc := 3) dX8_share_3 rfl (?_))))
  exact lp_mshare hd hg hk ga gb la lb ha hb h pa.length 0 (by omega)
theorem lp_msharing (hd : 2 ≤ d) (hw : wfG D) (hA : gaA D I (flD D)) {g : Nat} (hg : g < (flD D).length) (h : Q (some (.int (nI (cntB (fun j => decide (j ≠ g) && mt (pgD D (fD D) ((flD D).getD g 0)) (pgD D (fD D) ((flD D).getD j 0))) (flD D).length)))) (I, J, KR p)) : ∀ n i, i + n = (flD D).length → E me_X8_sharing d L 4 [some (.ref 82), some (.int (nI g)), some (.int (nI (cntB (fun j => decide (j ≠ g) && mt (pgD D (fD D) ((flD D).getD g 0)) (pgD D (fD D) ((flD D).getD j 0))) i))), some (.int (nI i))] [] I J p Q
  | 0, i, hi => by
    have e : i = (flD D).length := by omega
    have hl : (flD D).length ≤ 40 := fl_len40 (Nat.le_refl _)
    subst e
    refine ev_iload_n (pc := 4) dX8_sharing_4 rfl (ev_aload_n (pc := 5) dX8_sharing_5 rfl (ev_geti (pc := 6) kF_8_110 dX8_sharing_6 rfl rfl (ev_ncmp_ge (pc := 9) 40 ((flD D).length) ((flD D).length) dX8_sharing_9 (by decide) (rfl) (hA.1) (by omega) (by omega) (kf := fun c => absurd c (by omega)) (kt := fun c9 => ev_iload_n (pc := 40) dX8_sharing_40 rfl (ev_iret (pc := 41) dX8_sharing_41 rfl ?_)))))
    exact h
  | n + 1, i, hi => by
    have ih := lp_msharing hd hw hA hg h n (i + 1) (by omega)
    have hl : (flD D).length ≤ 40 := fl_len40 (Nat.le_refl _)
    obtain ⟨a1, a2, a3, a4, a5, a6, a7, a8⟩ := ga_at hw hA hg
    obtain ⟨b1, b2, b3, b4, b5, b6, b7, b8⟩ := ga_at hw hA (show i < (flD D).length by omega)
    generalize hF : (fun j => decide (j ≠ g) && mt (pgD D (fD D) ((flD D).getD g 0)) (pgD D (fD D) ((flD D).getD j 0))) = F at *
    have eF : F i = (decide (i ≠ g) && mt (pgD D (fD D) ((flD D).getD g 0)) (pgD D (fD D) ((flD D).getD i 0))) := by rw [← hF]
    have no : F i = false → E me_X8_sharing d L 31 [some (.ref 82), some (.int (nI g)), some (.int (nI (cntB F i))), some (.int (nI i))] [.int (nI (cntB F i))] I J p Q := by
      intro e
      rw [cntB_neg e] at ih
      refine ev_iconst (pc := 31) (v := (0)) dX8_sharing_31 iconst_c0 (ev_iadd (pc := 32) dX8_sharing_32 (?_))
      rw [show nI (cntB F i) + 0 = nI (cntB F i) from nI_add _ 0]
      refine ev_istore_n (pc := 33) dX8_sharing_33 rfl (ev_iinc (pc := 34) dX8_sharing_34 rfl (iinc_1 _) rfl (ev_goto (pc := 37) 4 dX8_sharing_37 (by decide) (?_)))
      exact ih
    by_cases c : i = g
    · rw [decide_eq_false (fun q => q c), Bool.false_and] at eF
      refine ev_iload_n (pc := 4) dX8_sharing_4 rfl (ev_aload_n (pc := 5) dX8_sharing_5 rfl (ev_geti (pc := 6) kF_8_110 dX8_sharing_6 rfl rfl (ev_ncmp_ge (pc := 9) 40 (i) ((flD D).length) dX8_sharing_9 (by decide) (rfl) (hA.1) (by omega) (by omega) (kt := fun c => absurd c (by omega)) (kf := fun c9 => ev_iload_n (pc := 12) dX8_sharing_12 rfl (ev_iload_n (pc := 13) dX8_sharing_13 rfl (ev_iload_n (pc := 14) dX8_sharing_14 rfl (ev_ncmp_eq (pc := 15) 31 (i) (g) dX8_sharing_15 (by decide) (rfl) (rfl) (by omega) (by omega) (kf := fun c => absurd c (by omega)) (kt := fun c15 => ?_))))))))
      exact no eF
    · rw [decide_eq_true c, Bool.true_and] at eF
      refine ev_iload_n (pc := 4) dX8_sharing_4 rfl (ev_aload_n (pc := 5) dX8_sharing_5 rfl (ev_geti (pc := 6) kF_8_110 dX8_sharing_6 rfl rfl (ev_ncmp_ge (pc := 9) 40 (i) ((flD D).length) dX8_sharing_9 (by decide) (rfl) (hA.1) (by omega) (by omega) (kt := fun c => absurd c (by omega)) (kf := fun c9 => ev_iload_n (pc := 12) dX8_sharing_12 rfl (ev_iload_n (pc := 13) dX8_sharing_13 rfl (ev_iload_n (pc := 14) dX8_sharing_14 rfl (ev_ncmp_eq (pc := 15) 31 (i) (g) dX8_sharing_15 (by decide) (rfl) (rfl) (by omega) (by omega) (kt := fun c => absurd c (by omega)) (kf := fun c15 => ev_aload_n (pc := 18) dX8_sharing_18 rfl (ev_iload_n (pc := 19) dX8_sharing_19 rfl (ev_iload_n (pc := 20) dX8_sharing_20 rfl (ev_invV (pc := 21) kV_8_123 dX8_sharing_21 rfl rfl rfl (by omega) rfl ?_)))))))))))
      refine m_share (by omega) a1 b1 a2.2.1 b2.2.1 a6 b6 a7 b7 ?_
      cases q : mt (pgD D (fD D) ((flD D).getD g 0)) (pgD D (fD D) ((flD D).getD i 0))
      · refine ev_ifb_eq (pc := 24) 31 dX8_sharing_24 (by decide) (kf := fun c => absurd c (by simp)) (kt := fun c24 => ?_)
        exact no (eF.trans q)
      · rw [cntB_pos (eF.trans q)] at ih
        refine ev_ifb_eq (pc := 24) 31 dX8_sharing_24 (by decide) (kt := fun c => absurd c (by simp)) (kf := fun c24 => ev_iconst (pc := 27) (v := (1)) dX8_sharing_27 iconst_c1 (ev_goto (pc := 28) 32 dX8_sharing_28 (by decide) (ev_iadd (pc := 32) dX8_sharing_32 (?_))))
        rw [nI_1]
        refine ev_istore_n (pc := 33) dX8_sharing_33 rfl (ev_iinc (pc := 34) dX8_sharing_34 rfl (iinc_1 _) rfl (ev_goto (pc := 37) 4 dX8_sharing_37 (by decide) (?_)))
        exact ih
theorem m_sharing (hd : 2 ≤ d) (hw : wfG D) (hA : gaA D I (flD D)) {g k : Nat} (hg : g < (flD D).length) (e : (flD D).getD g 0 = (glD D (fD D)).getD k 0) (h : Q (some (.int (nI (shrV D k) - 1))) (I, J, KR p)) : T d me_X8_sharing [.ref 82, .int (nI g)] L I J p Q := by
  refine am_enter [some (.ref 82), some (.int (nI g)), none, none] rfl rfl rfl rfl ?_
  have a5 := (ga_at hw hA hg).2.2.2.2.1
  refine ev_iconst (pc := 0) (v := (0)) dX8_sharing_0 iconst_c0 (ev_istore_n (pc := 1) dX8_sharing_1 rfl (ev_iconst (pc := 2) (v := (0)) dX8_sharing_2 iconst_c0 (ev_istore_n (pc := 3) dX8_sharing_3 rfl (?_))))
  refine lp_msharing hd hw hA hg ?_ (flD D).length 0 (by omega)
  have := shr_eq hg e a5
  rw [← this, show nI (cntB (fun j => decide (j ≠ g) && mt (pgD D (fD D) ((flD D).getD g 0)) (pgD D (fD D) ((flD D).getD j 0))) (flD D).length + 1) - 1 = nI (cntB (fun j => decide (j ≠ g) && mt (pgD D (fD D) ((flD D).getD g 0)) (pgD D (fD D) ((flD D).getD j 0))) (flD D).length) from nI_pred _] at h
  exact h
theorem lp_msum (hA : gaA D I (flD D)) (h : Q (some (.int (sumD D (fD D)))) (I, J, KR p)) : ∀ n i, i + n = (flD D).length → E me_X8_sum d L 4 [some (.ref 82), some (.int (sL (scD D (fD D)) ((flD D).take i))), some (.int (nI i))] [] I J p Q
  | 0, i, hi => by
    have e : i = (flD D).length := by omega
    have hl : (flD D).length ≤ 40 := fl_len40 (Nat.le_refl _)
    subst e
    rw [List.take_length, ← sum_eq]
    refine ev_iload_n (pc := 4) dX8_sum_4 rfl (ev_aload_n (pc := 5) dX8_sum_5 rfl (ev_geti (pc := 6) kF_8_110 dX8_sum_6 rfl rfl (ev_ncmp_ge (pc := 9) 27 ((flD D).length) ((flD D).length) dX8_sum_9 (by decide) (rfl) (hA.1) (by omega) (by omega) (kf := fun c => absurd c (by omega)) (kt := fun c9 => ev_iload_n (pc := 27) dX8_sum_27 rfl (ev_iret (pc := 28) dX8_sum_28 rfl ?_)))))
    exact h
  | n + 1, i, hi => by
    have ih := lp_msum hA h n (i + 1) (by omega)
    have hl : (flD D).length ≤ 40 := fl_len40 (Nat.le_refl _)
    rw [sum_cL i (by omega)] at ih
    refine ev_iload_n (pc := 4) dX8_sum_4 rfl (ev_aload_n (pc := 5) dX8_sum_5 rfl (ev_geti (pc := 6) kF_8_110 dX8_sum_6 rfl rfl (ev_ncmp_ge (pc := 9) 27 (i) ((flD D).length) dX8_sum_9 (by decide) (rfl) (hA.1) (by omega) (by omega) (kt := fun c => absurd c (by omega)) (kf := fun c9 => ev_iload_n (pc := 12) dX8_sum_12 rfl (ev_aload_n (pc := 13) dX8_sum_13 rfl (ev_getr (pc := 14) kF_8_40 dX8_sum_14 rfl rfl rfl (ev_iload_n (pc := 17) dX8_sum_17 rfl (ev_iald (pc := 18) (i := i) dX8_sum_18 rfl (rfl) (by omega) rfl (?_)))))))))
    rw [(hA.2 i (by omega)).2.2.2.2]
    refine ev_iadd (pc := 19) dX8_sum_19 (ev_istore_n (pc := 20) dX8_sum_20 rfl (ev_iinc (pc := 21) dX8_sum_21 rfl (iinc_1 _) rfl (ev_goto (pc := 24) 4 dX8_sum_24 (by decide) (?_))))
    exact ih
theorem m_sum (hA : gaA D I (flD D)) (h : Q (some (.int (sumD D (fD D)))) (I, J, KR p)) : T d me_X8_sum [.ref 82] L I J p Q := by
  refine am_enter [some (.ref 82), none, none] rfl rfl rfl rfl ?_
  refine ev_iconst (pc := 0) (v := (0)) dX8_sum_0 iconst_c0 (ev_istore_n (pc := 1) dX8_sum_1 rfl (ev_iconst (pc := 2) (v := (0)) dX8_sum_2 iconst_c0 (ev_istore_n (pc := 3) dX8_sum_3 rfl (?_))))
  exact lp_msum hA h (flD D).length 0 (by omega)
theorem lp_mgof (hd : 1 ≤ d) (hw : wfG D) (hA : gaA D I (flD D)) {j : Nat} (hj : j < 40) (h : Q (some (.int (nI (hasV D j)))) (I, J, KR p)) : ∀ n i, i + n = (flD D).length → E me_X8_guessesOf d L 4 [some (.ref 82), some (.int (nI j)), some (.int (nI (cntB (fun k => decide (j ∈ pgD D (fD D) ((flD D).getD k 0))) i))), some (.int (nI i))] [] I J p Q
  | 0, i, hi => by
    have e : i = (flD D).length := by omega
    have hl : (flD D).length ≤ 40 := fl_len40 (Nat.le_refl _)
    subst e
    rw [has_eq]
    refine ev_iload_n (pc := 4) dX8_guessesOf_4 rfl (ev_aload_n (pc := 5) dX8_guessesOf_5 rfl (ev_geti (pc := 6) kF_8_110 dX8_guessesOf_6 rfl rfl (ev_ncmp_ge (pc := 9) 35 ((flD D).length) ((flD D).length) dX8_guessesOf_9 (by decide) (rfl) (hA.1) (by omega) (by omega) (kf := fun c => absurd c (by omega)) (kt := fun c9 => ev_iload_n (pc := 35) dX8_guessesOf_35 rfl (ev_iret (pc := 36) dX8_guessesOf_36 rfl ?_)))))
    exact h
  | n + 1, i, hi => by
    have ih := lp_mgof hd hw hA hj h n (i + 1) (by omega)
    have hl : (flD D).length ≤ 40 := fl_len40 (Nat.le_refl _)
    obtain ⟨b1, b2, b3, b4, b5, b6, b7, b8⟩ := ga_at hw hA (show i < (flD D).length by omega)
    generalize hF : (fun k => decide (j ∈ pgD D (fD D) ((flD D).getD k 0))) = F at *
    have eF : F i = decide (j ∈ pgD D (fD D) ((flD D).getD i 0)) := by rw [← hF]
    refine ev_iload_n (pc := 4) dX8_guessesOf_4 rfl (ev_aload_n (pc := 5) dX8_guessesOf_5 rfl (ev_geti (pc := 6) kF_8_110 dX8_guessesOf_6 rfl rfl (ev_ncmp_ge (pc := 9) 35 (i) ((flD D).length) dX8_guessesOf_9 (by decide) (rfl) (hA.1) (by omega) (by omega) (kt := fun c => absurd c (by omega)) (kf := fun c9 => ev_iload_n (pc := 12) dX8_guessesOf_12 rfl (ev_aload_n (pc := 13) dX8_guessesOf_13 rfl (ev_iload_n (pc := 14) dX8_guessesOf_14 rfl (ev_iload_n (pc := 15) dX8_guessesOf_15 rfl (ev_invV (pc := 16) kV_8_107 dX8_guessesOf_16 rfl rfl rfl (by omega) rfl ?_))))))))
    refine m_isFound b1 b2.2.1 b6 b7 hj ?_
    rw [← eF]
    cases q : F i
    · rw [cntB_neg q] at ih
      refine ev_ifb_eq (pc := 19) 26 dX8_guessesOf_19 (by decide) (kf := fun c => absurd c (by simp)) (kt := fun c19 => ev_iconst (pc := 26) (v := (0)) dX8_guessesOf_26 iconst_c0 (ev_iadd (pc := 27) dX8_guessesOf_27 (?_)))
      rw [show nI (cntB F i) + 0 = nI (cntB F i) from nI_add _ 0]
      refine ev_istore_n (pc := 28) dX8_guessesOf_28 rfl (ev_iinc (pc := 29) dX8_guessesOf_29 rfl (iinc_1 _) rfl (ev_goto (pc := 32) 4 dX8_guessesOf_32 (by decide) (?_)))
      exact ih
    · rw [cntB_pos q] at ih
      refine ev_ifb_eq (pc := 19) 26 dX8_guessesOf_19 (by decide) (kt := fun c => absurd c (by simp)) (kf := fun c19 => ev_iconst (pc := 22) (v := (1)) dX8_guessesOf_22 iconst_c1 (ev_goto (pc := 23) 27 dX8_guessesOf_23 (by decide) (ev_iadd (pc := 27) dX8_guessesOf_27 (?_))))
      rw [nI_1]
      refine ev_istore_n (pc := 28) dX8_guessesOf_28 rfl (ev_iinc (pc := 29) dX8_guessesOf_29 rfl (iinc_1 _) rfl (ev_goto (pc := 32) 4 dX8_guessesOf_32 (by decide) (?_)))
      exact ih
theorem m_guessesOf (hd : 1 ≤ d) (hw : wfG D) (hA : gaA D I (flD D)) {j : Nat} (hj : j < 40) (h : Q (some (.int (nI (hasV D j)))) (I, J, KR p)) : T d me_X8_guessesOf [.ref 82, .int (nI j)] L I J p Q := by
  refine am_enter [some (.ref 82), some (.int (nI j)), none, none] rfl rfl rfl rfl ?_
  refine ev_iconst (pc := 0) (v := (0)) dX8_guessesOf_0 iconst_c0 (ev_istore_n (pc := 1) dX8_guessesOf_1 rfl (ev_iconst (pc := 2) (v := (0)) dX8_guessesOf_2 iconst_c0 (ev_istore_n (pc := 3) dX8_guessesOf_3 rfl (?_))))
  exact lp_mgof hd hw hA hj h (flD D).length 0 (by omega)
end T59
