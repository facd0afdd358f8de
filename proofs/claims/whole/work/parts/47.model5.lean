/-! ===== the reference: the lowest run, the layouts ===== -/
def aB (P : Nat → Bool) (q : Nat) : Nat → Bool
  | 0 => true
  | k + 1 => aB P q k && P (q + k)
theorem aB_iff {P : Nat → Bool} {q : Nat} : ∀ n, aB P q n = true ↔ ∀ k, k < n → P (q + k) = true
  | 0 => by simp [aB]
  | n + 1 => by
    simp only [aB, Bool.and_eq_true, aB_iff n]
    constructor
    · intro h k hk
      by_cases e : k = n
      · rw [e]; exact h.2
      · exact h.1 k (by omega)
    · intro h
      exact ⟨fun k hk => h k (by omega), h n (by omega)⟩
theorem rnP_win {P : Nat → Bool} {j : Nat} : ∀ n, aB P j n = true → n ≤ rnP P (j + n)
  | 0, _ => Nat.zero_le _
  | n + 1, h => by
    simp only [aB, Bool.and_eq_true] at h
    have ih := rnP_win n h.1
    rw [show j + (n + 1) = (j + n) + 1 by omega]
    simp only [rnP]
    rw [if_pos h.2]
    omega
theorem rnP_step (P : Nat → Bool) (i : Nat) : rnP P (i + 1) ≤ rnP P i + 1 := by
  simp only [rnP]
  split <;> omega
theorem win_rnP {P : Nat → Bool} {i len : Nat} (h : len ≤ rnP P i) (hl : len ≤ i) : aB P (i - len) len = true := by
  refine (aB_iff len).mpr fun k hk => ?_
  have := rnP_all P i (len - 1 - k) (by omega)
  rw [show i - len + k = i - 1 - (len - 1 - k) by omega]
  exact this
theorem lrF_min {P : Nat → Bool} {len : Nat} (h1 : 1 ≤ len) : ∀ n i, rnP P i < len → (∀ j, j + len ≤ i → aB P j len = false) →
    (∀ m, lrF P len n i = some m → ∀ j, j < m → aB P j len = false) ∧ (lrF P len n i = none → ∀ j, j + len ≤ i + n → aB P j len = false)
  | 0, i, hr, hw => ⟨fun m h => by simp [lrF] at h, fun _ j hj => hw j (by omega)⟩
  | n + 1, i, hr, hw => by
    have hs := rnP_step P i
    simp only [lrF]
    by_cases e : rnP P (i + 1) = len
    · rw [if_pos e]
      refine ⟨fun m h j hj => ?_, fun h => by cases h⟩
      cases h
      exact hw j (by omega)
    · rw [if_neg e]
      have := lrF_min (P := P) h1 n (i + 1) (by omega) (fun j hj => by
        by_cases q : j + len ≤ i
        · exact hw j q
        · cases hq : aB P j len
          · rfl
          · have := rnP_win len hq
            rw [show j + len = i + 1 by omega] at this
            omega)
      rw [show i + (n + 1) = i + 1 + n by omega]
      exact this
theorem fstP_pos {P : Nat → Bool} {n i : Nat} (h : P i = true) : fstP P (n + 1) i = some i := if_pos h
theorem fstP_neg {P : Nat → Bool} {n i : Nat} (h : P i = false) : fstP P (n + 1) i = fstP P n (i + 1) := if_neg (by rw [h]; decide)
theorem fstP_min {P : Nat → Bool} : ∀ {n i k : Nat}, fstP P n i = some k → ∀ j, i ≤ j → j < k → P j = false
  | 0, i, k, h, j, h1, h2 => by simp [fstP] at h
  | n + 1, i, k, h, j, h1, h2 => by
    simp only [fstP] at h
    split at h
    · cases h; omega
    · rename_i q
      by_cases e : j = i
      · rw [e]; simpa using q
      · exact fstP_min h j (by omega) h2
theorem lr_fst {P : Nat → Bool} {len : Nat} (h1 : 1 ≤ len) (h2 : len ≤ 40) : lrF P len 40 0 = fstP (fun q => aB P q len) (41 - len) 0 := by
  obtain ⟨a1, a2⟩ := lrF_min (P := P) h1 40 0 (by simp only [rnP]; omega) (fun j hj => by omega)
  cases hq : lrF P len 40 0 with
  | none =>
    cases hf : fstP (fun q => aB P q len) (41 - len) 0 with
    | none => rfl
    | some k =>
      obtain ⟨b1, b2, b3⟩ := fstP_some hf
      have := a2 hq k (by omega)
      rw [this] at b3
      cases b3
  | some m =>
    obtain ⟨m1, m2⟩ := lrF_run 40 0 m hq
    have mw : aB P m len = true := (aB_iff len).mpr m2
    cases hf : fstP (fun q => aB P q len) (41 - len) 0 with
    | none =>
      have := fstP_none hf m (by omega) (by omega)
      rw [mw] at this
      cases this
    | some k =>
      obtain ⟨b1, b2, b3⟩ := fstP_some hf
      have c1 := fstP_min hf m (by omega)
      have c2 := a1 m hq k
      by_cases e1 : m < k
      · rw [mw] at c1; exact absurd (c1 e1) (by decide)
      · by_cases e2 : k < m
        · rw [b3] at c2; exact absurd (c2 e2) (by decide)
        · rw [show m = k by omega]
section T47
variable {d L : Nat} {I : Nat → Nat → Int32} {J : Nat → Nat → Int64} {p : Nat → Nat} {Q : Option Value → am_M → Prop} {D : Nat → Int32}
theorem lp_run1 (hd : 3 ≤ d) (hr : rowM I D) (ho : ownOK D) {len q : Nat} {f : Int32} (hl : len ≤ 12) (hq : q + len ≤ 40) (k : ∀ o, E me_X8_run d L 53 [some (.ref 82), some (.int (nI len)), some (.int f), some (.int (nI q)), some (.int (bI (aB (fD D) q len))), o] [] I J p Q) : ∀ (n i : Nat), i + n = len → E me_X8_run d L 18 [some (.ref 82), some (.int (nI len)), some (.int f), some (.int (nI q)), some (.int (bI (aB (fD D) q i))), some (.int (nI i))] [] I J p Q
  | 0, i, hi => by
    have e : i = len := by omega
    subst e
    refine ev_iload (pc := 18) dX8_run_18 rfl (ev_iload_n (pc := 20) dX8_run_20 rfl (ev_ncmp_ge (pc := 21) 53 (i) (i) dX8_run_21 (by decide) (rfl) (rfl) (by omega) (by omega) (kf := fun c => absurd c (by omega)) (kt := fun c21 => ?_)))
    exact k _
  | n + 1, i, hi => by
    have ih := lp_run1 hd hr ho hl hq k n (i + 1) (by omega)
    simp only [aB] at ih
    refine ev_iload (pc := 18) dX8_run_18 rfl (ev_iload_n (pc := 20) dX8_run_20 rfl (ev_ncmp_ge (pc := 21) 53 (i) (len) dX8_run_21 (by decide) (rfl) (rfl) (by omega) (by omega) (kt := fun c => absurd c (by omega)) (kf := fun c21 => ev_iload (pc := 24) dX8_run_24 rfl (?_))))
    cases q1 : aB (fD D) q i
    · rw [q1, Bool.false_and] at ih
      refine ev_ifb_eq (pc := 26) 44 dX8_run_26 (by decide) (kf := fun c => absurd c (by simp)) (kt := fun c26 => ev_iconst (pc := 44) (v := (0)) dX8_run_44 iconst_c0 (ev_istore (pc := 45) dX8_run_45 rfl (ev_iinc (pc := 47) dX8_run_47 rfl (iinc_1 _) rfl (ev_goto (pc := 50) 18 dX8_run_50 (by decide) (?_)))))
      exact ih
    · rw [q1, Bool.true_and] at ih
      refine ev_ifb_eq (pc := 26) 44 dX8_run_26 (by decide) (kt := fun c => absurd c (by simp)) (kf := fun c26 => ev_aload_n (pc := 29) dX8_run_29 rfl (ev_iload_n (pc := 30) dX8_run_30 rfl (ev_iload (pc := 31) dX8_run_31 rfl (ev_iadd (pc := 33) dX8_run_33 (?_)))))
      rw [show nI q + nI i = nI (q + i) from nI_add q i]
      refine ev_invV (pc := 34) kV_8_68 dX8_run_34 rfl rfl rfl (by omega) rfl ?_
      refine m_isFree (by omega) hr ho (by omega) ?_
      rw [decide_eq_true (show q + i < 40 by omega), Bool.true_and]
      cases q2 : fD D (q + i)
      · rw [q2] at ih
        refine ev_ifb_eq (pc := 37) 44 dX8_run_37 (by decide) (kf := fun c => absurd c (by simp)) (kt := fun c37 => ev_iconst (pc := 44) (v := (0)) dX8_run_44 iconst_c0 (ev_istore (pc := 45) dX8_run_45 rfl (ev_iinc (pc := 47) dX8_run_47 rfl (iinc_1 _) rfl (ev_goto (pc := 50) 18 dX8_run_50 (by decide) (?_)))))
        exact ih
      · rw [q2] at ih
        refine ev_ifb_eq (pc := 37) 44 dX8_run_37 (by decide) (kt := fun c => absurd c (by simp)) (kf := fun c37 => ev_iconst (pc := 40) (v := (1)) dX8_run_40 iconst_c1 (ev_goto (pc := 41) 45 dX8_run_41 (by decide) (ev_istore (pc := 45) dX8_run_45 rfl (ev_iinc (pc := 47) dX8_run_47 rfl (iinc_1 _) rfl (ev_goto (pc := 50) 18 dX8_run_50 (by decide) (?_))))))
        exact ih
theorem lp_run2 (hd : 3 ≤ d) (hr : rowM I D) (ho : ownOK D) {len : Nat} (h1 : 1 ≤ len) (hl : len ≤ 12) (k : Q (some (.int ((fstP (fun q => aB (fD D) q len) (41 - len) 0).elim (-1000004) nI))) (I, J, KR p)) : ∀ (n : Nat) (o1 o2 : Option Value), n ≤ 41 - len → E me_X8_run d L 8 [some (.ref 82), some (.int (nI len)), some (.int ((fstP (fun q => aB (fD D) q len) (41 - len - n) n).elim (-1000004) nI)), some (.int (nI n - 1)), o1, o2] [] I J p Q
  | 0, o1, o2, hn => by
    refine ev_iload_n (pc := 8) dX8_run_8 rfl (ev_if_lt (pc := 9) 70 dX8_run_9 (by decide) (kf := fun c => absurd (by decide) c) (kt := fun c9 => ev_iload_n (pc := 70) dX8_run_70 rfl (ev_iret (pc := 71) dX8_run_71 rfl ?_)))
    exact k
  | n + 1, o1, o2, hn => by
    have ih := lp_run2 hd hr ho h1 hl k n
    have e : 41 - len - n = (41 - len - (n + 1)) + 1 := by omega
    rw [e] at ih
    rw [nI_pred]
    refine ev_iload_n (pc := 8) dX8_run_8 rfl (ev_if_lt (pc := 9) 70 dX8_run_9 (by decide) (kt := fun c => absurd c (nI_pos (by omega))) (kf := fun c9 => ev_iconst (pc := 12) (v := (1)) dX8_run_12 iconst_c1 (ev_istore (pc := 13) dX8_run_13 rfl (ev_iconst (pc := 15) (v := (0)) dX8_run_15 iconst_c0 (ev_istore (pc := 16) dX8_run_16 rfl (?_))))))
    refine lp_run1 hd hr ho hl (by omega) (fun o => ?_) len 0 (by omega)
    cases q1 : aB (fD D) n len
    · rw [fstP_neg (P := fun q => aB (fD D) q len) q1] at ih
      refine ev_iload (pc := 53) dX8_run_53 rfl (ev_ifb_eq (pc := 55) 62 dX8_run_55 (by decide) (kf := fun c => absurd c (by simp)) (kt := fun c55 => ev_iload_n (pc := 62) dX8_run_62 rfl (ev_istore_n (pc := 63) dX8_run_63 rfl (ev_iinc (pc := 64) dX8_run_64 rfl ( iinc_m _) rfl (ev_goto (pc := 67) 8 dX8_run_67 (by decide) (?_))))))
      exact ih _ _ (by omega)
    · rw [fstP_pos (P := fun q => aB (fD D) q len) q1] at ih
      refine ev_iload (pc := 53) dX8_run_53 rfl (ev_ifb_eq (pc := 55) 62 dX8_run_55 (by decide) (kt := fun c => absurd c (by simp)) (kf := fun c55 => ev_iload_n (pc := 58) dX8_run_58 rfl (ev_goto (pc := 59) 63 dX8_run_59 (by decide) (ev_istore_n (pc := 63) dX8_run_63 rfl (ev_iinc (pc := 64) dX8_run_64 rfl ( iinc_m _) rfl (ev_goto (pc := 67) 8 dX8_run_67 (by decide) (?_)))))))
      exact ih _ _ (by omega)
theorem m_run (hd : 4 ≤ d) (hr : rowM I D) (ho : ownOK D) {len : Nat} (h1 : 1 ≤ len) (hl : len ≤ 12) (k : Q (some (.int ((lrF (fD D) len 40 0).elim (-1000004) nI))) (I, J, KR p)) : T d me_X8_run [.ref 82, .int (nI len)] L I J p Q := by
  refine am_enter [some (.ref 82), some (.int (nI len)), none, none, none, none] rfl rfl rfl rfl ?_
  rw [lr_fst h1 (by omega)] at k
  refine ev_ldc (pc := 0) kC_8_71 dX8_run_0 (ev_istore_n (pc := 2) dX8_run_2 rfl (ev_bipush (pc := 3) (v := (40)) dX8_run_3 bipush_c40 (ev_iload_n (pc := 5) dX8_run_5 rfl (ev_isub (pc := 6) dX8_run_6 (?_)))))
  rw [show (40 : Int32) - nI len = nI (41 - len) - 1 by rw [show nI (41 - len) - 1 = nI (40 - len) by rw [show 41 - len = (40 - len) + 1 by omega]; exact nI_pred _]; exact nI_less (a := 40) (b := len) (by omega)]
  have := lp_run2 (d := d) (L := L) (by omega) hr ho h1 hl k (41 - len)
  rw [Nat.sub_self] at this
  simp only [fstP, Option.elim_none] at this
  refine ev_istore_n (pc := 7) dX8_run_7 rfl (?_)
  exact this _ _ (Nat.le_refl _)
end T47
