/-! ===== the reference: a guess is traced ===== -/
def wfG (D : Nat → Int32) : Prop :=
  ownOK D ∧ (∀ i, i < 40 → D i = 1 → D (80 + i) = nI (lnD D i) ∧ 1 ≤ lnD D i ∧ lnD D i ≤ 12) ∧ (∀ j, j < 40 → D (120 + j) = -1 ∨ ∃ q, q < 40 ∧ D (120 + j) = nI q) ∧ D 248 = nI (zD D) ∧ zD D ≤ 6
theorem wfG_of {D : Nat → Int32} (h : wfD D) : wfG D := ⟨own_wf h, fun _ hi c => wf_l h hi c, fun j hj => (h.1 j hj).2.2.2.1, (wf_z h).1, (wf_z h).2⟩
theorem mul12 : ∀ n, n < 40 → (12 : Int32) * nI n = nI (12 * n) := by decide +kernel
def eB (ps : List Nat) (j : Nat) : Nat → Bool
  | 0 => false
  | i + 1 => eB ps j i || decide (ps.getD i 0 = j)
theorem eB_iff {ps : List Nat} {j : Nat} : ∀ n, eB ps j n = true ↔ ∃ k, k < n ∧ ps.getD k 0 = j
  | 0 => by simp [eB]
  | n + 1 => by
    simp only [eB, Bool.or_eq_true, decide_eq_true_eq, eB_iff n]
    constructor
    · rintro (⟨k, h1, h2⟩ | h)
      · exact ⟨k, by omega, h2⟩
      · exact ⟨n, by omega, h⟩
    · rintro ⟨k, h1, h2⟩
      by_cases e : k = n
      · exact Or.inr (e ▸ h2)
      · exact Or.inl ⟨k, by omega, h2⟩
theorem mem_getD {ps : List Nat} {j : Nat} (h : j ∈ ps) : ∃ k, k < ps.length ∧ ps.getD k 0 = j := by
  obtain ⟨k, hk, e⟩ := List.getElem_of_mem h
  exact ⟨k, hk, by simp [List.getD_eq_getElem?_getD, hk, e]⟩
theorem eB_mem {ps : List Nat} {j : Nat} : eB ps j ps.length = decide (j ∈ ps) := by
  rw [Bool.eq_iff_iff, eB_iff, decide_eq_true_eq]
  exact ⟨fun ⟨k, h1, h2⟩ => h2 ▸ getD_mem h1, mem_getD⟩
/-- the pages of a guess -/
def gu (I : Nat → Nat → Int32) (g : Nat) (ps : List Nat) : Prop := I 90 g = nI ps.length ∧ ∀ k, k < ps.length → I 94 (12 * g + k) = nI (ps.getD k 0)
def gyF (I I' : Nat → Nat → Int32) (g : Nat) : Prop := (∀ c, c ≠ 90 → c ≠ 94 → I' c = I c) ∧ (∀ k, k ≠ g → I' 90 k = I 90 k) ∧ ∀ x, x < 12 * g ∨ 12 * g + 12 ≤ x → I' 94 x = I 94 x
def gxF (I I' : Nat → Nat → Int32) (g : Nat) : Prop := (∀ c, c < 89 ∨ 94 < c → I' c = I c) ∧ (∀ c k, 89 ≤ c → c ≤ 93 → k ≠ g → I' c k = I c k) ∧ ∀ x, x < 12 * g ∨ 12 * g + 12 ≤ x → I' 94 x = I 94 x
theorem gxF_y {I I1 I2 : Nat → Nat → Int32} {g : Nat} (h : gxF I I1 g) (h2 : gyF I1 I2 g) : gxF I I2 g :=
  ⟨fun c hc => by rw [h2.1 c (by omega) (by omega), h.1 c hc], fun c k h3 h4 h5 => by
    by_cases e : c = 90
    · subst e
      rw [h2.2.1 k h5, h.2.1 90 k h3 h4 h5]
    · rw [h2.1 c e (by omega), h.2.1 c k h3 h4 h5], fun x hx => by rw [h2.2.2 x hx, h.2.2 x hx]⟩
theorem gxF_ui {I I1 : Nat → Nat → Int32} {g c : Nat} {v : Int32} (h : gxF I I1 g) (hc : 89 ≤ c ∧ c ≤ 93) : gxF I (ui I1 c g v) g := by
  refine ⟨fun a ha => ?_, fun a k h1 h2 h3 => ?_, fun x hx => ?_⟩
  · rw [← h.1 a ha]
    funext y
    simp only [ui]
    rw [if_neg (by omega)]
  · rw [← h.2.1 a k h1 h2 h3]
    simp only [ui]
    rw [if_neg (by omega)]
  · rw [← h.2.2 x hx]
    simp only [ui]
    rw [if_neg (by omega)]
theorem gu_y {I I1 : Nat → Nat → Int32} {g : Nat} {ps : List Nat} (h : gu I g ps) (e0 : I1 90 = I 90) (e1 : I1 94 = I 94) : gu I1 g ps := by
  unfold gu
  rw [e0, e1]
  exact h
theorem gsP_nI {ok : Nat → Bool} {ps : List Nat} {j : Nat} (hj : j ≤ 40) : gsP ok ps (nI j) = if j < 40 ∧ ok j = true ∧ j ∉ ps then some j else none := by
  unfold gsP
  by_cases c : j < 40
  · rw [ix_n c (by decide)]
    simp only [Option.bind_some]
    by_cases q : ok j = true ∧ j ∉ ps
    · rw [if_pos (by simp [q.1, q.2]), if_pos ⟨c, q⟩]
    · rw [if_neg (by simp only [Bool.and_eq_true, Bool.not_eq_true', List.contains_eq_mem, decide_eq_false_iff_not]; exact q), if_neg (fun h => q h.2)]
  · rw [ix_ge (nI_le (by omega) (by omega)), if_neg (fun h => c h.1)]
    rfl
section T54
variable {d L : Nat} {I : Nat → Nat → Int32} {J : Nat → Nat → Int64} {p : Nat → Nat} {Q : Option Value → am_M → Prop} {D : Nat → Int32}
theorem lp_mentry (hr : rowM I D) (hz : zD D ≤ 6) {s q : Int32} (P : Nat → Bool) (hP : ∀ k, k < zD D → P k = (decide (D (232 + 3 * k) = s) && (decide (q < 0) || decide (D (231 + 3 * k) = q)))) (h : Q (some (.int ((fstP P (zD D) 0).elim (-1000004) nI))) (I, J, KR p)) : ∀ (n : Nat) (o : Option Value), n ≤ zD D → E me_X8_entry d L 15 [some (.ref 82), some (.int s), some (.int q), some (.int ((fstP P (zD D - n) n).elim (-1000004) nI)), some (.int (nI n - 1)), o] [] I J p Q
  | 0, o, hn => by
    refine ev_iload (pc := 15) dX8_entry_15 rfl (ev_if_lt (pc := 17) 73 dX8_entry_17 (by decide) (kf := fun c => absurd (by decide) c) (kt := fun c17 => ev_iload_n (pc := 73) dX8_entry_73 rfl (ev_iret (pc := 74) dX8_entry_74 rfl ?_)))
    exact h
  | n + 1, o, hn => by
    have ih := lp_mentry hr hz P hP h n
    rw [show zD D - n = zD D - (n + 1) + 1 by omega] at ih
    have hPn := hP n (by omega)
    rw [nI_pred]
    have no : P n = false → E me_X8_entry d L 65 [some (.ref 82), some (.int s), some (.int q), some (.int ((fstP P (zD D - (n + 1)) (n + 1)).elim (-1000004) nI)), some (.int (nI n)), some (.int (nI (230 + 3 * n)))] [] I J p Q := by
      intro e
      rw [fstP_neg e] at ih
      refine ev_iload_n (pc := 65) dX8_entry_65 rfl (ev_istore_n (pc := 66) dX8_entry_66 rfl (ev_iinc (pc := 67) dX8_entry_67 rfl ( iinc_m _) rfl (ev_goto (pc := 70) 15 dX8_entry_70 (by decide) (?_))))
      exact ih _ (by omega)
    have yes : P n = true → E me_X8_entry d L 60 [some (.ref 82), some (.int s), some (.int q), some (.int ((fstP P (zD D - (n + 1)) (n + 1)).elim (-1000004) nI)), some (.int (nI n)), some (.int (nI (230 + 3 * n)))] [] I J p Q := by
      intro e
      rw [fstP_pos e] at ih
      refine ev_iload (pc := 60) dX8_entry_60 rfl (ev_goto (pc := 62) 66 dX8_entry_62 (by decide) (ev_istore_n (pc := 66) dX8_entry_66 rfl (ev_iinc (pc := 67) dX8_entry_67 rfl ( iinc_m _) rfl (ev_goto (pc := 70) 15 dX8_entry_70 (by decide) (?_)))))
      exact ih _ (by omega)
    refine ev_iload (pc := 15) dX8_entry_15 rfl (ev_if_lt (pc := 17) 73 dX8_entry_17 (by decide) (kt := fun c => absurd c (nI_pos (by omega))) (kf := fun c17 => ev_sipush (pc := 20) (v := (230)) dX8_entry_20 sipush_c230 (ev_iconst (pc := 23) (v := (3)) dX8_entry_23 iconst_c3 (ev_iload (pc := 24) dX8_entry_24 rfl (ev_imul (pc := 26) dX8_entry_26 (?_))))))
    rw [mul3 n (by omega)]
    refine ev_iadd (pc := 27) dX8_entry_27 (?_)
    rw [show (230 : Int32) + nI (3 * n) = nI (230 + 3 * n) from nI_add 230 (3 * n)]
    refine ev_istore (pc := 28) dX8_entry_28 rfl (ev_aload_n (pc := 30) dX8_entry_30 rfl (ev_getr (pc := 31) kF_8_7 dX8_entry_31 rfl rfl rfl (ev_iload (pc := 34) dX8_entry_34 rfl (ev_iconst (pc := 36) (v := (2)) dX8_entry_36 iconst_c2 (ev_iadd (pc := 37) dX8_entry_37 (ev_iald (pc := 38) (i := 230 + 3 * n + 2) dX8_entry_38 rfl (nI_add (230 + 3 * n) 2) (by omega) rfl (?_)))))))
    rw [hr _ (by omega), show 230 + 3 * n + 2 = 232 + 3 * n by omega]
    by_cases c1 : D (232 + 3 * n) = s
    · rw [decide_eq_true c1, Bool.true_and] at hPn
      by_cases c2 : q < 0
      · rw [decide_eq_true c2, Bool.true_or] at hPn
        refine ev_iload_n (pc := 39) dX8_entry_39 rfl (ev_icmp_ne (pc := 40) 65 dX8_entry_40 (by decide) (kt := fun c => absurd (c1) c) (kf := fun c40 => ev_iload_n (pc := 43) dX8_entry_43 rfl (ev_if_lt (pc := 44) 60 dX8_entry_44 (by decide) (kf := fun c => absurd (c2) c) (kt := fun c44 => ?_))))
        exact yes hPn
      · rw [decide_eq_false c2, Bool.false_or] at hPn
        refine ev_iload_n (pc := 39) dX8_entry_39 rfl (ev_icmp_ne (pc := 40) 65 dX8_entry_40 (by decide) (kt := fun c => absurd (c1) c) (kf := fun c40 => ev_iload_n (pc := 43) dX8_entry_43 rfl (ev_if_lt (pc := 44) 60 dX8_entry_44 (by decide) (kt := fun c => absurd c (c2)) (kf := fun c44 => ev_aload_n (pc := 47) dX8_entry_47 rfl (ev_getr (pc := 48) kF_8_7 dX8_entry_48 rfl rfl rfl (ev_iload (pc := 51) dX8_entry_51 rfl (ev_iconst (pc := 53) (v := (1)) dX8_entry_53 iconst_c1 (ev_iadd (pc := 54) dX8_entry_54 (ev_iald (pc := 55) (i := 230 + 3 * n + 1) dX8_entry_55 rfl (nI_add (230 + 3 * n) 1) (by omega) rfl (?_))))))))))
        rw [hr _ (by omega), show 230 + 3 * n + 1 = 231 + 3 * n by omega]
        by_cases c3 : D (231 + 3 * n) = q
        · rw [decide_eq_true c3] at hPn
          refine ev_iload_n (pc := 56) dX8_entry_56 rfl (ev_icmp_ne (pc := 57) 65 dX8_entry_57 (by decide) (kt := fun c => absurd (c3) c) (kf := fun c57 => ?_))
          exact yes hPn
        · rw [decide_eq_false c3] at hPn
          refine ev_iload_n (pc := 56) dX8_entry_56 rfl (ev_icmp_ne (pc := 57) 65 dX8_entry_57 (by decide) (kf := fun c => absurd c (c3)) (kt := fun c57 => ?_))
          exact no hPn
    · rw [decide_eq_false c1, Bool.false_and] at hPn
      refine ev_iload_n (pc := 39) dX8_entry_39 rfl (ev_icmp_ne (pc := 40) 65 dX8_entry_40 (by decide) (kf := fun c => absurd c (c1)) (kt := fun c40 => ?_))
      exact no hPn
theorem m_entryA (hr : rowM I D) (hw : wfG D) {s q : Int32} (P : Nat → Bool) (hP : ∀ k, k < zD D → P k = (decide (D (232 + 3 * k) = s) && (decide (q < 0) || decide (D (231 + 3 * k) = q)))) (h : Q (some (.int ((fstP P (zD D) 0).elim (-1000004) nI))) (I, J, KR p)) : T d me_X8_entry [.ref 82, .int s, .int q] L I J p Q := by
  refine am_enter [some (.ref 82), some (.int s), some (.int q), none, none, none] rfl rfl rfl rfl ?_
  have := lp_mentry (d := d) (L := L) hr hw.2.2.2.2 P hP h (zD D)
  rw [Nat.sub_self] at this
  simp only [fstP, Option.elim_none] at this
  refine ev_ldc (pc := 0) kC_8_71 dX8_entry_0 (ev_istore_n (pc := 2) dX8_entry_2 rfl (ev_aload_n (pc := 3) dX8_entry_3 rfl (ev_getr (pc := 4) kF_8_7 dX8_entry_4 rfl rfl rfl (ev_sipush (pc := 7) (v := (248)) dX8_entry_7 sipush_c248 (ev_iald (pc := 10) (i := 248) dX8_entry_10 rfl (rfl) (by omega) rfl (?_))))))
  rw [hr 248 (by omega), hw.2.2.2.1]
  refine ev_iconst (pc := 11) (v := (1)) dX8_entry_11 iconst_c1 (ev_isub (pc := 12) dX8_entry_12 (ev_istore (pc := 13) dX8_entry_13 rfl (?_)))
  exact this _ (Nat.le_refl _)
theorem m_entry (hr : rowM I D) (hw : wfG D) {s : Int32} {i : Nat} (hi : i < 40) (h : Q (some (.int ((jwD D (nI i) s).elim (-1000004) nI))) (I, J, KR p)) : T d me_X8_entry [.ref 82, .int s, .int (nI i)] L I J p Q :=
  m_entryA hr hw (fun k => decide (D (231 + 3 * k) = nI i) && decide (D (232 + 3 * k) = s)) (fun k _ => by rw [decide_eq_false (nI_pos (by omega)), Bool.false_or, Bool.and_comm]) h
theorem m_entryS (hr : rowM I D) (hw : wfG D) {s : Int32} (h : Q (some (.int ((jsD D s).elim (-1000004) nI))) (I, J, KR p)) : T d me_X8_entry [.ref 82, .int s, .int (-1)] L I J p Q :=
  m_entryA hr hw (fun k => decide (D (232 + 3 * k) = s)) (fun k _ => by rw [decide_eq_true (by decide : (-1 : Int32) < 0), Bool.true_or, Bool.and_true]) h
theorem lp_misF {g j : Nat} {ps : List Nat} (hg : g < 40) (hgu : gu I g ps) (hl : ps.length ≤ 12) (h40 : ∀ q ∈ ps, q < 40) (hj : j < 40) (h : Q (some (.int (bI (decide (j ∈ ps))))) (I, J, KR p)) : ∀ n i, i + n = ps.length → E me_X8_isFound d L 5 [some (.ref 82), some (.int (nI g)), some (.int (nI j)), some (.int (bI (eB ps j i))), some (.int (nI i))] [] I J p Q
  | 0, i, hi => by
    have e : i = ps.length := by omega
    subst e
    rw [eB_mem]
    refine ev_iload (pc := 5) dX8_isFound_5 rfl (ev_aload_n (pc := 7) dX8_isFound_7 rfl (ev_getr (pc := 8) kF_8_31 dX8_isFound_8 rfl rfl rfl (ev_iload_n (pc := 11) dX8_isFound_11 rfl (ev_iald (pc := 12) (i := g) dX8_isFound_12 rfl (rfl) (by omega) rfl (ev_ncmp_ge (pc := 13) 48 (ps.length) (ps.length) dX8_isFound_13 (by decide) (rfl) (hgu.1) (by omega) (by omega) (kf := fun c => absurd c (by omega)) (kt := fun c13 => ev_iload_n (pc := 48) dX8_isFound_48 rfl (ev_zret (pc := 49) dX8_isFound_49 rfl (bI_01 _) ?_)))))))
    exact h
  | n + 1, i, hi => by
    have ih := lp_misF hg hgu hl h40 hj h n (i + 1) (by omega)
    have hq : ps.getD i 0 < 40 := h40 _ (getD_mem (by omega))
    simp only [eB] at ih
    refine ev_iload (pc := 5) dX8_isFound_5 rfl (ev_aload_n (pc := 7) dX8_isFound_7 rfl (ev_getr (pc := 8) kF_8_31 dX8_isFound_8 rfl rfl rfl (ev_iload_n (pc := 11) dX8_isFound_11 rfl (ev_iald (pc := 12) (i := g) dX8_isFound_12 rfl (rfl) (by omega) rfl (ev_ncmp_ge (pc := 13) 48 (i) (ps.length) dX8_isFound_13 (by decide) (rfl) (hgu.1) (by omega) (by omega) (kt := fun c => absurd c (by omega)) (kf := fun c13 => ev_iload_n (pc := 16) dX8_isFound_16 rfl (?_)))))))
    cases q : eB ps j i
    · rw [q, Bool.false_or] at ih
      have hx : (12 : Int32) * nI g + nI i = nI (12 * g + i) := by rw [mul12 g hg]; exact nI_add _ _
      refine ev_ifb_ne (pc := 17) 36 dX8_isFound_17 (by decide) (kt := fun c => absurd c (by simp)) (kf := fun c17 => ev_aload_n (pc := 20) dX8_isFound_20 rfl (ev_getr (pc := 21) kF_8_43 dX8_isFound_21 rfl rfl rfl (ev_bipush (pc := 24) (v := (12)) dX8_isFound_24 bipush_c12 (ev_iload_n (pc := 26) dX8_isFound_26 rfl (ev_imul (pc := 27) dX8_isFound_27 (ev_iload (pc := 28) dX8_isFound_28 rfl (ev_iadd (pc := 30) dX8_isFound_30 (ev_iald (pc := 31) (i := 12 * g + i) dX8_isFound_31 rfl (hx) (by omega) rfl (?_)))))))))
      rw [hgu.2 i (by omega)]
      by_cases c : ps.getD i 0 = j
      · rw [decide_eq_true c] at ih
        refine ev_iload_n (pc := 32) dX8_isFound_32 rfl (ev_ncmp_ne (pc := 33) 40 (ps.getD i 0) (j) dX8_isFound_33 (by decide) (rfl) (rfl) (by omega) (by omega) (kt := fun c => absurd c (by omega)) (kf := fun c33 => ev_iconst (pc := 36) (v := (1)) dX8_isFound_36 iconst_c1 (ev_goto (pc := 37) 41 dX8_isFound_37 (by decide) (ev_istore_n (pc := 41) dX8_isFound_41 rfl (ev_iinc (pc := 42) dX8_isFound_42 rfl (iinc_1 _) rfl (ev_goto (pc := 45) 5 dX8_isFound_45 (by decide) (?_)))))))
        exact ih
      · rw [decide_eq_false c] at ih
        refine ev_iload_n (pc := 32) dX8_isFound_32 rfl (ev_ncmp_ne (pc := 33) 40 (ps.getD i 0) (j) dX8_isFound_33 (by decide) (rfl) (rfl) (by omega) (by omega) (kf := fun c => absurd c (by omega)) (kt := fun c33 => ev_iconst (pc := 40) (v := (0)) dX8_isFound_40 iconst_c0 (ev_istore_n (pc := 41) dX8_isFound_41 rfl (ev_iinc (pc := 42) dX8_isFound_42 rfl (iinc_1 _) rfl (ev_goto (pc := 45) 5 dX8_isFound_45 (by decide) (?_))))))
        exact ih
    · rw [q, Bool.true_or] at ih
      refine ev_ifb_ne (pc := 17) 36 dX8_isFound_17 (by decide) (kf := fun c => absurd c (by simp)) (kt := fun c17 => ev_iconst (pc := 36) (v := (1)) dX8_isFound_36 iconst_c1 (ev_goto (pc := 37) 41 dX8_isFound_37 (by decide) (ev_istore_n (pc := 41) dX8_isFound_41 rfl (ev_iinc (pc := 42) dX8_isFound_42 rfl (iinc_1 _) rfl (ev_goto (pc := 45) 5 dX8_isFound_45 (by decide) (?_))))))
      exact ih
theorem m_isFound {g j : Nat} {ps : List Nat} (hg : g < 40) (hgu : gu I g ps) (hl : ps.length ≤ 12) (h40 : ∀ q ∈ ps, q < 40) (hj : j < 40) (h : Q (some (.int (bI (decide (j ∈ ps))))) (I, J, KR p)) : T d me_X8_isFound [.ref 82, .int (nI g), .int (nI j)] L I J p Q := by
  refine am_enter [some (.ref 82), some (.int (nI g)), some (.int (nI j)), none, none] rfl rfl rfl rfl ?_
  refine ev_iconst (pc := 0) (v := (0)) dX8_isFound_0 iconst_c0 (ev_istore_n (pc := 1) dX8_isFound_1 rfl (ev_iconst (pc := 2) (v := (0)) dX8_isFound_2 iconst_c0 (ev_istore (pc := 3) dX8_isFound_3 rfl (?_))))
  exact lp_misF hg hgu hl h40 hj h ps.length 0 (by omega)
theorem m_goesOn (hd : 3 ≤ d) (hr : rowM I D) (ho : ownOK D) {g f j : Nat} {ps : List Nat} (hg : g < 40) (hgu : gu I g ps) (hl : ps.length < 12) (h40 : ∀ q ∈ ps, q < 40) (hf : I 89 g = nI f) (hf40 : f < 40) (hj : j ≤ 40)
    (kn : gsP (okD D (fD D) (D (40 + f))) ps (nI j) = none → Q (some (.int (bI false))) (I, J, KR p)) (ks : ∀ I', j < 40 → gsP (okD D (fD D) (D (40 + f))) ps (nI j) = some j → gu I' g (ps ++ [j]) → gyF I I' g → Q (some (.int (bI true))) (I', J, KR p)) : T d me_X8_goesOn [.ref 82, .int (nI g), .int (nI j)] L I J p Q := by
  refine am_enter [some (.ref 82), some (.int (nI g)), some (.int (nI j)), none] rfl rfl rfl rfl ?_
  rw [gsP_nI hj] at kn
  have no : ¬ (j < 40 ∧ okD D (fD D) (D (40 + f)) j = true ∧ j ∉ ps) → E me_X8_goesOn d L 59 [some (.ref 82), some (.int (nI g)), some (.int (nI j)), none] [] I J p Q := by
    intro h
    rw [if_neg h] at kn
    refine ev_iconst (pc := 59) (v := (0)) dX8_goesOn_59 iconst_c0 (ev_istore_n (pc := 60) dX8_goesOn_60 rfl (ev_iload_n (pc := 61) dX8_goesOn_61 rfl (ev_if_eq (pc := 62) 92 dX8_goesOn_62 (by decide) (kf := fun c => absurd (rfl) c) (kt := fun c62 => ev_iload_n (pc := 92) dX8_goesOn_92 rfl (ev_zret (pc := 93) dX8_goesOn_93 rfl (bI_01 false) ?_)))))
    exact kn rfl
  unfold okD at no
  refine ev_aload_n (pc := 0) dX8_goesOn_0 rfl (ev_iload_n (pc := 1) dX8_goesOn_1 rfl (ev_invV (pc := 2) kV_8_68 dX8_goesOn_2 rfl rfl rfl (by omega) rfl ?_))
  refine m_isFree (by omega) hr ho (by omega) ?_
  by_cases c : j < 40
  · rw [decide_eq_true c, Bool.true_and]
    cases q1 : fD D j
    · refine ev_ifb_eq (pc := 5) 59 dX8_goesOn_5 (by decide) (kf := fun c => absurd c (by simp)) (kt := fun c5 => ?_)
      exact no (by rw [q1]; simp)
    · refine ev_ifb_eq (pc := 5) 59 dX8_goesOn_5 (by decide) (kt := fun c => absurd c (by simp)) (kf := fun c5 => ev_aload_n (pc := 8) dX8_goesOn_8 rfl (ev_getr (pc := 9) kF_8_7 dX8_goesOn_9 rfl rfl rfl (ev_iconst (pc := 12) (v := (0)) dX8_goesOn_12 iconst_c0 (ev_iload_n (pc := 13) dX8_goesOn_13 rfl (ev_iadd (pc := 14) dX8_goesOn_14 (ev_iald (pc := 15) (i := j) dX8_goesOn_15 rfl (Int32.zero_add _) (by omega) rfl (?_)))))))
      rw [hr j (by omega)]
      by_cases q2 : D j = 2
      · refine ev_iconst (pc := 16) (v := (2)) dX8_goesOn_16 iconst_c2 (ev_icmp_ne (pc := 17) 59 dX8_goesOn_17 (by decide) (kt := fun c => absurd (q2) c) (kf := fun c17 => ev_aload_n (pc := 20) dX8_goesOn_20 rfl (ev_getr (pc := 21) kF_8_7 dX8_goesOn_21 rfl rfl rfl (ev_bipush (pc := 24) (v := (40)) dX8_goesOn_24 bipush_c40 (ev_iload_n (pc := 26) dX8_goesOn_26 rfl (ev_iadd (pc := 27) dX8_goesOn_27 (ev_iald (pc := 28) (i := 40 + j) dX8_goesOn_28 rfl (nI_add 40 j) (by omega) rfl (?_))))))))
        rw [hr _ (by omega)]
        refine ev_aload_n (pc := 29) dX8_goesOn_29 rfl (ev_getr (pc := 30) kF_8_7 dX8_goesOn_30 rfl rfl rfl (ev_bipush (pc := 33) (v := (40)) dX8_goesOn_33 bipush_c40 (ev_aload_n (pc := 35) dX8_goesOn_35 rfl (ev_getr (pc := 36) kF_8_28 dX8_goesOn_36 rfl rfl rfl (ev_iload_n (pc := 39) dX8_goesOn_39 rfl (ev_iald (pc := 40) (i := g) dX8_goesOn_40 rfl (rfl) (by omega) rfl (?_)))))))
        rw [hf]
        refine ev_iadd (pc := 41) dX8_goesOn_41 (ev_iald (pc := 42) (i := 40 + f) dX8_goesOn_42 rfl (nI_add 40 f) (by omega) rfl (?_))
        rw [hr _ (by omega)]
        by_cases q3 : D (40 + j) = D (40 + f)
        · refine ev_icmp_ne (pc := 43) 59 dX8_goesOn_43 (by decide) (kt := fun c => absurd (q3) c) (kf := fun c43 => ev_aload_n (pc := 46) dX8_goesOn_46 rfl (ev_iload_n (pc := 47) dX8_goesOn_47 rfl (ev_iload_n (pc := 48) dX8_goesOn_48 rfl (ev_invV (pc := 49) kV_8_107 dX8_goesOn_49 rfl rfl rfl (by omega) rfl ?_))))
          refine m_isFound hg hgu (by omega) h40 c ?_
          by_cases q4 : j ∈ ps
          · rw [decide_eq_true q4]
            refine ev_ifb_ne (pc := 52) 59 dX8_goesOn_52 (by decide) (kf := fun c => absurd c (by simp)) (kt := fun c52 => ?_)
            exact no (fun h => h.2.2 q4)
          · rw [decide_eq_false q4]
            have hx : (12 : Int32) * nI g + I 90 g = nI (12 * g + ps.length) := by rw [mul12 g hg, hgu.1]; exact nI_add _ _
            refine ev_ifb_ne (pc := 52) 59 dX8_goesOn_52 (by decide) (kt := fun c => absurd c (by simp)) (kf := fun c52 => ev_iconst (pc := 55) (v := (1)) dX8_goesOn_55 iconst_c1 (ev_goto (pc := 56) 60 dX8_goesOn_56 (by decide) (ev_istore_n (pc := 60) dX8_goesOn_60 rfl (ev_iload_n (pc := 61) dX8_goesOn_61 rfl (ev_if_eq (pc := 62) 92 dX8_goesOn_62 (by decide) (kt := fun c => absurd c (by decide)) (kf := fun c62 => ev_aload_n (pc := 65) dX8_goesOn_65 rfl (ev_getr (pc := 66) kF_8_43 dX8_goesOn_66 rfl rfl rfl (ev_bipush (pc := 69) (v := (12)) dX8_goesOn_69 bipush_c12 (ev_iload_n (pc := 71) dX8_goesOn_71 rfl (ev_imul (pc := 72) dX8_goesOn_72 (ev_aload_n (pc := 73) dX8_goesOn_73 rfl (ev_getr (pc := 74) kF_8_31 dX8_goesOn_74 rfl rfl rfl (ev_iload_n (pc := 77) dX8_goesOn_77 rfl (?_))))))))))))))
            refine ev_iald (pc := 78) (i := g) dX8_goesOn_78 rfl (rfl) (by omega) rfl (ev_iadd (pc := 79) dX8_goesOn_79 (ev_iload_n (pc := 80) dX8_goesOn_80 rfl (ev_iast (pc := 81) (i := 12 * g + ps.length) dX8_goesOn_81 rfl rfl (hx) (by omega) rfl (ev_aload_n (pc := 82) dX8_goesOn_82 rfl (ev_getr (pc := 83) kF_8_31 dX8_goesOn_83 rfl rfl rfl (ev_iload_n (pc := 86) dX8_goesOn_86 rfl (ev_dup2 (pc := 87) dX8_goesOn_87 rfl rfl (ev_iald (pc := 88) (i := g) dX8_goesOn_88 rfl (rfl) (by omega) rfl (?_)))))))))
            rw [show ui I 94 (12 * g + ps.length) (nI j) 90 g = nI ps.length by simp [ui, hgu.1]]
            refine ev_iconst (pc := 89) (v := (1)) dX8_goesOn_89 iconst_c1 (ev_iadd (pc := 90) dX8_goesOn_90 (?_))
            rw [nI_1]
            refine ev_iast (pc := 91) (i := g) dX8_goesOn_91 rfl rfl (rfl) (by omega) rfl (ev_iload_n (pc := 92) dX8_goesOn_92 rfl (ev_zret (pc := 93) dX8_goesOn_93 rfl (bI_01 true) ?_))
            refine ks _ c ?_ ⟨?_, ?_⟩ ⟨fun a h1 h2 => ?_, fun k hk => ?_, fun x hx => ?_⟩
            · rw [gsP_nI hj, if_pos ⟨c, by unfold okD; rw [q1, decide_eq_true q2, decide_eq_true q3]; rfl, q4⟩]
            · simp [ui]
            · intro k hk
              simp only [List.length_append, List.length_cons, List.length_nil] at hk
              simp only [ui]
              rw [if_neg (by omega)]
              by_cases e : k = ps.length
              · rw [if_pos ⟨trivial, by omega⟩, e]
                simp [List.getD_eq_getElem?_getD]
              · rw [if_neg (by omega), hgu.2 k (by omega)]
                simp [List.getD_eq_getElem?_getD, List.getElem?_append_left (show k < ps.length by omega)]
            · funext y
              simp only [ui]
              rw [if_neg (by omega), if_neg (by omega)]
            · simp only [ui]
              rw [if_neg (by omega), if_neg (by omega)]
            · simp only [ui]
              rw [if_neg (by omega), if_neg (by omega)]
        · refine ev_icmp_ne (pc := 43) 59 dX8_goesOn_43 (by decide) (kf := fun c => absurd c (q3)) (kt := fun c43 => ?_)
          exact no (by rw [q1, decide_eq_false q3]; simp)
      · refine ev_iconst (pc := 16) (v := (2)) dX8_goesOn_16 iconst_c2 (ev_icmp_ne (pc := 17) 59 dX8_goesOn_17 (by decide) (kf := fun c => absurd c (q2)) (kt := fun c17 => ?_))
        exact no (by rw [q1, decide_eq_false q2]; simp)
  · rw [decide_eq_false c, Bool.false_and]
    refine ev_ifb_eq (pc := 5) 59 dX8_goesOn_5 (by decide) (kf := fun c => absurd c (by simp)) (kt := fun c5 => ?_)
    exact no (fun h => c h.1)
end T54
