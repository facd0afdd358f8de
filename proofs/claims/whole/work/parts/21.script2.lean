/-! ===== orders, read by the class ===== -/
def rsl (g : Nat → Int32) (b : Nat) : Option (Nat × Nat × Nat) := if g b = 44 then match rdS g 44 (b + 1) with
    | none => none
    | some (v, b2) => match rdN g b2 with
      | none => none
      | some (w, c) => some (v, w, c)
  else none
def sameS (I I' : Nat → Nat → Int32) : Prop := (∀ a, a ≠ 78 → I' a = I a) ∧ ∀ i, i ≠ 2 → i ≠ 7 → i ≠ 8 → I' 78 i = I 78 i
def sameO (I I' : Nat → Nat → Int32) : Prop := (∀ a, a ≠ 78 → I' a = I a) ∧ I' 78 1 = I 78 1
theorem sameS_rf (I : Nat → Nat → Int32) : sameS I I := ⟨fun _ _ => rfl, fun _ _ _ _ => rfl⟩
theorem sameS_ui {I I' : Nat → Nat → Int32} {i : Nat} {v : Int32} (h : sameS I I') (hi : i = 2 ∨ i = 7 ∨ i = 8) : sameS I (ui I' 78 i v) := by
  refine ⟨fun a ha => ?_, fun j j1 j2 j3 => ?_⟩
  · rw [← h.1 a ha]
    funext j
    simp [ui, ha]
  · rw [← h.2 j j1 j2 j3]
    simp only [ui]
    rw [if_neg (by omega)]
theorem sameO_rf (I : Nat → Nat → Int32) : sameO I I := ⟨fun _ _ => rfl, rfl⟩
theorem sameO_ui {I I' : Nat → Nat → Int32} {i : Nat} {v : Int32} (h : sameO I I') (hi : i ≠ 1) : sameO I (ui I' 78 i v) := by
  refine ⟨fun a ha => ?_, ?_⟩
  · rw [← h.1 a ha]
    funext j
    simp [ui, ha]
  · rw [← h.2]
    simp only [ui]
    rw [if_neg (by omega)]
theorem sameS.o {I I' I2 : Nat → Nat → Int32} (h : sameO I I') (h2 : sameS I' I2) : sameO I I2 := ⟨fun a ha => (h2.1 a ha).trans (h.1 a ha), (h2.2 1 (by decide) (by decide) (by decide)).trans h.2⟩
def fitO (c : Int32) (u v w : Nat) : Bool := if c = 119 then decide (u < 30) && decide (v < 10) && decide (1 ≤ w) && decide (w ≤ 12) else if c = 100 then decide (u < 30) else if c = 122 then decide (u < 40) else true
section T21
variable {d L : Nat} {I : Nat → Nat → Int32} {J : Nat → Nat → Int64} {p : Nat → Nat} {Q : Option Value → am_M → Prop}
theorem t_rsl (hd : 3 ≤ d) {n b : Nat} (hn : I 78 1 = nI n) (ha : I 78 2 = nI b) (hn60 : n ≤ 60) (hb60 : b ≤ 190) (h1 : rsl (sgT (I 79) n) b = none → ∀ I', sameS I I' → Q (some (.int (bI false))) (I', J, KR p)) (h2 : ∀ v w c, rsl (sgT (I 79) n) b = some (v, w, c) → ∀ I', sameS I I' → I' 78 2 = nI c → I' 78 7 = nI v → I' 78 8 = nI w → Q (some (.int (bI true))) (I', J, KR p)) : T d me_X6_readStyleAndLength [.ref 78] L I J p Q := by
  unfold rsl rdS at h1 h2
  refine am_enter [some (.ref 78)] rfl rfl rfl rfl ?_
  refine ev_aload_n (pc := 0) dX6_readStyleAndLength_0 rfl (ev_bipush (pc := 1) (v := (44)) dX6_readStyleAndLength_1 bipush_c44 (ev_invV (pc := 3) kV_6_45 dX6_readStyleAndLength_3 rfl rfl rfl (by omega) rfl ?_))
  refine t_passes (by omega) hn ha hn60 (by omega) 44 (fun e => ?_) (fun e => ?_)
  · rw [if_pos e] at h1 h2
    refine ev_ifb_ne (pc := 6) 11 dX6_readStyleAndLength_6 (by decide) (kf := fun c => absurd c (by decide)) (kt := fun c6 => ev_aload_n (pc := 11) dX6_readStyleAndLength_11 rfl (ev_aload_n (pc := 12) dX6_readStyleAndLength_12 rfl (ev_invV (pc := 13) kV_6_35 dX6_readStyleAndLength_13 rfl rfl rfl (by omega) rfl ?_)))
    refine t_readNumber (a := b + 1) (by omega) (by simpa [ui] using hn) (by simp [ui]) hn60 (by omega) (fun e2 => ?_) (fun v b2 e2 => ?_)
    · have e3 : rdN (sgT (I 79) n) (b + 1) = none := e2
      rw [e3] at h1
      refine ev_puti (pc := 16) kF_6_49 dX6_readStyleAndLength_16 rfl rfl rfl rfl rfl (ev_aload_n (pc := 19) dX6_readStyleAndLength_19 rfl (ev_geti (pc := 20) kF_6_49 dX6_readStyleAndLength_20 rfl rfl (ev_iconst (pc := 23) (v := (-1)) dX6_readStyleAndLength_23 iconst_cm1 (ev_icmp_eq (pc := 24) 36 dX6_readStyleAndLength_24 (by decide) (kf := fun c => absurd (by simp [ui]) c) (kt := fun c24 => ev_iconst (pc := 36) (v := (0)) dX6_readStyleAndLength_36 iconst_c0 (ev_zret (pc := 37) dX6_readStyleAndLength_37 rfl (bI_01 false) ?_))))))
      exact h1 rfl _ (sameS_ui (sameS_ui (sameS_rf I) (Or.inl rfl)) (Or.inr (Or.inl rfl)))
    · have e3 : rdN (sgT (I 79) n) (b + 1) = some (v, b2) := e2
      obtain ⟨v1, v2, v3⟩ := rdN_lt e3
      rw [e3] at h1 h2
      rw [ui_ui]
      refine ev_puti (pc := 16) kF_6_49 dX6_readStyleAndLength_16 rfl rfl rfl rfl rfl (ev_aload_n (pc := 19) dX6_readStyleAndLength_19 rfl (ev_geti (pc := 20) kF_6_49 dX6_readStyleAndLength_20 rfl rfl (ev_iconst (pc := 23) (v := (-1)) dX6_readStyleAndLength_23 iconst_cm1 (ev_icmp_eq (pc := 24) 36 dX6_readStyleAndLength_24 (by decide) (kt := fun c => absurd c (by simp [ui]; exact nI_ne_m1 (by omega))) (kf := fun c24 => ev_aload_n (pc := 27) dX6_readStyleAndLength_27 rfl (ev_bipush (pc := 28) (v := (44)) dX6_readStyleAndLength_28 bipush_c44 (ev_invV (pc := 30) kV_6_45 dX6_readStyleAndLength_30 rfl rfl rfl (by omega) rfl ?_)))))))
      refine t_passes (a := b2) (by omega) (by simpa [ui] using hn) (by simp [ui]) hn60 (by omega) 44 (fun e4 => ?_) (fun e4 => ?_)
      · have e5 : sgT (I 79) n b2 = 44 := e4
        simp only [e5, if_true] at h1 h2
        refine ev_ifb_ne (pc := 33) 38 dX6_readStyleAndLength_33 (by decide) (kf := fun c => absurd c (by decide)) (kt := fun c33 => ev_aload_n (pc := 38) dX6_readStyleAndLength_38 rfl (ev_aload_n (pc := 39) dX6_readStyleAndLength_39 rfl (ev_invV (pc := 40) kV_6_35 dX6_readStyleAndLength_40 rfl rfl rfl (by omega) rfl ?_)))
        refine t_readNumber (a := b2 + 1) (by omega) (by simpa [ui] using hn) (by simp [ui]) hn60 (by omega) (fun e6 => ?_) (fun w c e6 => ?_)
        · have e7 : rdN (sgT (I 79) n) (b2 + 1) = none := e6
          rw [e7] at h1
          refine ev_puti (pc := 43) kF_6_52 dX6_readStyleAndLength_43 rfl rfl rfl rfl rfl (ev_aload_n (pc := 46) dX6_readStyleAndLength_46 rfl (ev_geti (pc := 47) kF_6_52 dX6_readStyleAndLength_47 rfl rfl (ev_iconst (pc := 50) (v := (-1)) dX6_readStyleAndLength_50 iconst_cm1 (ev_icmp_eq (pc := 51) 58 dX6_readStyleAndLength_51 (by decide) (kf := fun c => absurd (by simp [ui]) c) (kt := fun c51 => ev_iconst (pc := 58) (v := (0)) dX6_readStyleAndLength_58 iconst_c0 (ev_zret (pc := 59) dX6_readStyleAndLength_59 rfl (bI_01 false) ?_))))))
          exact h1 rfl _ (sameS_ui (sameS_ui (sameS_ui (sameS_ui (sameS_rf I) (Or.inl rfl)) (Or.inr (Or.inl rfl))) (Or.inl rfl)) (Or.inr (Or.inr rfl)))
        · have e7 : rdN (sgT (I 79) n) (b2 + 1) = some (w, c) := e6
          obtain ⟨w1, w2, w3⟩ := rdN_lt e7
          rw [e7] at h2
          refine ev_puti (pc := 43) kF_6_52 dX6_readStyleAndLength_43 rfl rfl rfl rfl rfl (ev_aload_n (pc := 46) dX6_readStyleAndLength_46 rfl (ev_geti (pc := 47) kF_6_52 dX6_readStyleAndLength_47 rfl rfl (ev_iconst (pc := 50) (v := (-1)) dX6_readStyleAndLength_50 iconst_cm1 (ev_icmp_eq (pc := 51) 58 dX6_readStyleAndLength_51 (by decide) (kt := fun c => absurd c (by simp [ui]; exact nI_ne_m1 (by omega))) (kf := fun c51 => ev_iconst (pc := 54) (v := (1)) dX6_readStyleAndLength_54 iconst_c1 (ev_goto (pc := 55) 59 dX6_readStyleAndLength_55 (by decide) (ev_zret (pc := 59) dX6_readStyleAndLength_59 rfl (bI_01 true) ?_)))))))
          refine h2 v w c rfl _ (sameS_ui (sameS_ui (sameS_ui (sameS_ui (sameS_ui (sameS_rf I) (Or.inl rfl)) (Or.inr (Or.inl rfl))) (Or.inl rfl)) (Or.inl rfl)) (Or.inr (Or.inr rfl))) ?_ ?_ ?_ <;> simp [ui]
      · have e5 : ¬ sgT (I 79) n b2 = 44 := e4
        simp only [e5, if_false] at h1
        refine ev_ifb_ne (pc := 33) 38 dX6_readStyleAndLength_33 (by decide) (kt := fun c => absurd c (by decide)) (kf := fun c33 => ev_iconst (pc := 36) (v := (0)) dX6_readStyleAndLength_36 iconst_c0 (ev_zret (pc := 37) dX6_readStyleAndLength_37 rfl (bI_01 false) ?_))
        exact h1 trivial _ (sameS_ui (sameS_ui (sameS_rf I) (Or.inl rfl)) (Or.inr (Or.inl rfl)))
  · rw [if_neg e] at h1
    refine ev_ifb_ne (pc := 6) 11 dX6_readStyleAndLength_6 (by decide) (kt := fun c => absurd c (by decide)) (kf := fun c6 => ev_iconst (pc := 9) (v := (0)) dX6_readStyleAndLength_9 iconst_c0 (ev_zret (pc := 10) dX6_readStyleAndLength_10 rfl (bI_01 false) ?_))
    exact h1 rfl _ (sameS_rf I)
theorem t_numbersFit {c : Int32} {u v w : Nat} (hc : c = 119 ∨ c = 100 ∨ c = 99 ∨ c = 122) (h5 : I 78 5 = c) (h6 : I 78 6 = nI u) (hu : u < 100) (hv : v < 100) (hw : w < 100) (h78 : c = 119 → I 78 7 = nI v ∧ I 78 8 = nI w) (h : Q (some (.int (bI (fitO c u v w)))) (I, J, KR p)) : T d me_X6_numbersFit [.ref 78] L I J p Q := by
  unfold fitO at h
  refine am_enter [some (.ref 78)] rfl rfl rfl rfl ?_
  refine ev_aload_n (pc := 0) dX6_numbersFit_0 rfl (ev_geti (pc := 1) kF_6_32 dX6_numbersFit_1 rfl rfl (?_))
  rw [h5]
  rcases hc with rfl | rfl | rfl | rfl
  · obtain ⟨g7, g8⟩ := h78 rfl
    rw [if_pos rfl] at h
    refine ev_lookup (pc := 4) (off := 36) 40 dX6_numbersFit_4 (by decide) (by decide) (by decide) ?_
    refine ev_aload_n (pc := 40) dX6_numbersFit_40 rfl (ev_geti (pc := 41) kF_6_38 dX6_numbersFit_41 rfl rfl (ev_bipush (pc := 44) (v := (30)) dX6_numbersFit_44 bipush_c30 (ev_ncmp_ge (pc := 46) 79 (u) (30) dX6_numbersFit_46 (by decide) (h6) (rfl) (by omega) (by omega) (fun c46 => ?_) (fun c46 => ?_))))
    · rw [decide_eq_false (p := u < 30) (by omega)] at h
      refine ev_iconst (pc := 79) (v := (0)) dX6_numbersFit_79 iconst_c0 (ev_zret (pc := 80) dX6_numbersFit_80 rfl (bI_01 false) ?_)
      exact h
    · rw [decide_eq_true (p := u < 30) (by omega)] at h
      refine ev_aload_n (pc := 49) dX6_numbersFit_49 rfl (ev_geti (pc := 50) kF_6_49 dX6_numbersFit_50 rfl rfl (ev_bipush (pc := 53) (v := (10)) dX6_numbersFit_53 bipush_c10 (ev_ncmp_ge (pc := 55) 79 (v) (10) dX6_numbersFit_55 (by decide) (g7) (rfl) (by omega) (by omega) (fun c55 => ?_) (fun c55 => ?_))))
      · rw [decide_eq_false (p := v < 10) (by omega)] at h
        refine ev_iconst (pc := 79) (v := (0)) dX6_numbersFit_79 iconst_c0 (ev_zret (pc := 80) dX6_numbersFit_80 rfl (bI_01 false) ?_)
        exact h
      · rw [decide_eq_true (p := v < 10) (by omega)] at h
        refine ev_aload_n (pc := 58) dX6_numbersFit_58 rfl (ev_geti (pc := 59) kF_6_52 dX6_numbersFit_59 rfl rfl (ev_iconst (pc := 62) (v := (1)) dX6_numbersFit_62 iconst_c1 (ev_ncmp_lt (pc := 63) 79 (w) (1) dX6_numbersFit_63 (by decide) (g8) (rfl) (by omega) (by omega) (fun c63 => ?_) (fun c63 => ?_))))
        · rw [decide_eq_false (p := 1 ≤ w) (by omega)] at h
          refine ev_iconst (pc := 79) (v := (0)) dX6_numbersFit_79 iconst_c0 (ev_zret (pc := 80) dX6_numbersFit_80 rfl (bI_01 false) ?_)
          exact h
        · rw [decide_eq_true (p := 1 ≤ w) (by omega)] at h
          refine ev_aload_n (pc := 66) dX6_numbersFit_66 rfl (ev_geti (pc := 67) kF_6_52 dX6_numbersFit_67 rfl rfl (ev_bipush (pc := 70) (v := (12)) dX6_numbersFit_70 bipush_c12 (ev_ncmp_gt (pc := 72) 79 (w) (12) dX6_numbersFit_72 (by decide) (g8) (rfl) (by omega) (by omega) (fun c72 => ?_) (fun c72 => ?_))))
          · rw [decide_eq_false (p := w ≤ 12) (by omega)] at h
            refine ev_iconst (pc := 79) (v := (0)) dX6_numbersFit_79 iconst_c0 (ev_zret (pc := 80) dX6_numbersFit_80 rfl (bI_01 false) ?_)
            exact h
          · rw [decide_eq_true (p := w ≤ 12) (by omega)] at h
            refine ev_iconst (pc := 75) (v := (1)) dX6_numbersFit_75 iconst_c1 (ev_goto (pc := 76) 80 dX6_numbersFit_76 (by decide) (ev_zret (pc := 80) dX6_numbersFit_80 rfl (bI_01 true) ?_))
            exact h
  · rw [if_neg (by decide), if_pos rfl] at h
    refine ev_lookup (pc := 4) (off := 77) 81 dX6_numbersFit_4 (by decide) (by decide) (by decide) ?_
    refine ev_aload_n (pc := 81) dX6_numbersFit_81 rfl (ev_geti (pc := 82) kF_6_38 dX6_numbersFit_82 rfl rfl (ev_bipush (pc := 85) (v := (30)) dX6_numbersFit_85 bipush_c30 (ev_ncmp_ge (pc := 87) 94 (u) (30) dX6_numbersFit_87 (by decide) (h6) (rfl) (by omega) (by omega) (fun c87 => ?_) (fun c87 => ?_))))
    · rw [decide_eq_false (p := u < 30) (by omega)] at h
      refine ev_iconst (pc := 94) (v := (0)) dX6_numbersFit_94 iconst_c0 (ev_zret (pc := 95) dX6_numbersFit_95 rfl (bI_01 false) ?_)
      exact h
    · rw [decide_eq_true (p := u < 30) (by omega)] at h
      refine ev_iconst (pc := 90) (v := (1)) dX6_numbersFit_90 iconst_c1 (ev_goto (pc := 91) 95 dX6_numbersFit_91 (by decide) (ev_zret (pc := 95) dX6_numbersFit_95 rfl (bI_01 true) ?_))
      exact h
  · rw [if_neg (by decide), if_neg (by decide), if_neg (by decide)] at h
    refine ev_lookup (pc := 4) (off := 107) 111 dX6_numbersFit_4 (by decide) (by decide) (by decide) ?_
    refine ev_iconst (pc := 111) (v := (1)) dX6_numbersFit_111 iconst_c1 (ev_zret (pc := 112) dX6_numbersFit_112 rfl (bI_01 true) ?_)
    exact h
  · rw [if_neg (by decide), if_neg (by decide), if_pos rfl] at h
    refine ev_lookup (pc := 4) (off := 92) 96 dX6_numbersFit_4 (by decide) (by decide) (by decide) ?_
    refine ev_aload_n (pc := 96) dX6_numbersFit_96 rfl (ev_geti (pc := 97) kF_6_38 dX6_numbersFit_97 rfl rfl (ev_bipush (pc := 100) (v := (40)) dX6_numbersFit_100 bipush_c40 (ev_ncmp_ge (pc := 102) 109 (u) (40) dX6_numbersFit_102 (by decide) (h6) (rfl) (by omega) (by omega) (fun c102 => ?_) (fun c102 => ?_))))
    · rw [decide_eq_false (p := u < 40) (by omega)] at h
      refine ev_iconst (pc := 109) (v := (0)) dX6_numbersFit_109 iconst_c0 (ev_zret (pc := 110) dX6_numbersFit_110 rfl (bI_01 false) ?_)
      exact h
    · rw [decide_eq_true (p := u < 40) (by omega)] at h
      refine ev_iconst (pc := 105) (v := (1)) dX6_numbersFit_105 iconst_c1 (ev_goto (pc := 106) 110 dX6_numbersFit_106 (by decide) (ev_zret (pc := 110) dX6_numbersFit_110 rfl (bI_01 true) ?_))
      exact h
end T21
