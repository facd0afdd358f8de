/-! ===== an order, read whole by the class ===== -/
theorem rdO_w {g : Nat → Int32} {a : Nat} (h : g a = 119) : rdO g a = match rdN g (a + 1) with
    | none => none
    | some (u, b) => match rsl g b with
      | none => none
      | some (v, w, c) => if g c = 59 then some (119, u, v, w, c + 1) else none := by
  unfold rdO
  rw [if_pos h]
  unfold rdS rsl
  cases h1 : rdN g (a + 1) with
  | none => rfl
  | some q =>
    obtain ⟨u, b⟩ := q
    dsimp only
    by_cases h2 : g b = 44
    · rw [if_pos h2, if_pos h2]
      dsimp only
      unfold rdS
      cases h3 : rdN g (b + 1) with
      | none => rfl
      | some q =>
        obtain ⟨v, b2⟩ := q
        dsimp only
        by_cases h4 : g b2 = 44
        · rw [if_pos h4]
          dsimp only
          cases h5 : rdN g (b2 + 1) with
          | none => rfl
          | some q =>
            obtain ⟨w, c⟩ := q
            dsimp only
            by_cases h6 : g c = 59
            · rw [if_pos h6, if_pos h6]
            · rw [if_neg h6, if_neg h6]
        · rw [if_neg h4]
    · rw [if_neg h2, if_neg h2]
theorem rdO_1 {g : Nat → Int32} {a : Nat} (h : g a = 100 ∨ g a = 99 ∨ g a = 122) : rdO g a = match rdN g (a + 1) with
    | none => none
    | some (u, b) => if g b = 59 then some (g a, u, 0, 0, b + 1) else none := by
  have hne : ¬ g a = 119 := by
    rcases h with e | e | e <;> rw [e] <;> decide
  unfold rdO rdS
  rw [if_neg hne, if_pos h]
  cases h1 : rdN g (a + 1) with
  | none => rfl
  | some q =>
    obtain ⟨u, b⟩ := q
    dsimp only
    by_cases h2 : g b = 59
    · rw [if_pos h2, if_pos h2]
    · rw [if_neg h2, if_neg h2]
section T22
variable {d L : Nat} {I : Nat → Nat → Int32} {J : Nat → Nat → Int64} {p : Nat → Nat} {Q : Option Value → am_M → Prop}
/-- the sign behind an order -/
theorem en_ro_end (hd : 2 ≤ d) {I1 : Nat → Nat → Int32} {n a b : Nat} (hn : I1 78 1 = nI n) (ha : I1 78 2 = nI b) (hn60 : n ≤ 60) (hb60 : b ≤ 190) (hs : sameO I I1) (h3 : I1 78 3 = nI a) (h4 : I1 78 4 = I 78 4)
    (k1 : ¬ sgT (I 79) n b = 59 → ∀ I', sameO I I' → I' 78 3 = nI a → I' 78 4 = I 78 4 → Q (some (.int (bI false))) (I', J, KR p)) (k2 : sgT (I 79) n b = 59 → Q (some (.int (bI true))) (ui (ui I1 78 2 (nI (b + 1))) 78 4 (I 78 4 + 1), J, KR p)) : E me_X6_readOrder d L 96 [some (.ref 78)] [] I1 J p Q := by
  have e79 : I1 79 = I 79 := hs.1 79 (by decide)
  refine ev_aload_n (pc := 96) dX6_readOrder_96 rfl (ev_bipush (pc := 97) (v := (59)) dX6_readOrder_97 bipush_c59 (ev_invV (pc := 99) kV_6_45 dX6_readOrder_99 rfl rfl rfl (by omega) rfl ?_))
  refine t_passes (by omega) hn ha hn60 (by omega) 59 (fun e => ?_) (fun e => ?_)
  · rw [e79] at e
    refine ev_ifb_ne (pc := 102) 107 dX6_readOrder_102 (by decide) (kf := fun c => absurd c (by decide)) (kt := fun c102 => ev_aload_n (pc := 107) dX6_readOrder_107 rfl (ev_dup (pc := 108) dX6_readOrder_108 rfl (ev_geti (pc := 109) kF_6_25 dX6_readOrder_109 rfl rfl (ev_iconst (pc := 112) (v := (1)) dX6_readOrder_112 iconst_c1 (ev_iadd (pc := 113) dX6_readOrder_113 (ev_puti (pc := 114) kF_6_25 dX6_readOrder_114 rfl rfl rfl rfl rfl (ev_iconst (pc := 117) (v := (1)) dX6_readOrder_117 iconst_c1 (ev_zret (pc := 118) dX6_readOrder_118 rfl (bI_01 true) ?_))))))))
    have e4 : ui I1 78 2 (nI (b + 1)) 78 4 = I 78 4 := by
      rw [← h4]
      simp [ui]
    rw [e4]
    exact k2 e
  · rw [e79] at e
    refine ev_ifb_ne (pc := 102) 107 dX6_readOrder_102 (by decide) (kt := fun c => absurd c (by decide)) (kf := fun c102 => ev_iconst (pc := 105) (v := (0)) dX6_readOrder_105 iconst_c0 (ev_zret (pc := 106) dX6_readOrder_106 rfl (bI_01 false) ?_))
    exact k1 e I1 hs h3 h4
theorem en_ro (hd : 4 ≤ d) {I1 : Nat → Nat → Int32} {n a : Nat} {c : Int32} (hc : c = 119 ∨ c = 100 ∨ c = 99 ∨ c = 122) (hg : sgT (I 79) n a = c) (hn : I1 78 1 = nI n) (ha : I1 78 2 = nI (a + 1)) (hn60 : n ≤ 60) (ha60 : a < n) (hs : sameO I I1) (i3 : I1 78 3 = nI a) (i4 : I1 78 4 = I 78 4) (i5 : I1 78 5 = c)
    (h1 : rdO (sgT (I 79) n) a = none → ∀ I', sameO I I' → I' 78 3 = nI a → I' 78 4 = I 78 4 → Q (some (.int (bI false))) (I', J, KR p))
    (h2 : ∀ u v w e, rdO (sgT (I 79) n) a = some (c, u, v, w, e) → ∀ I', sameO I I' → I' 78 3 = nI a → I' 78 4 = I 78 4 + 1 → I' 78 2 = nI e → I' 78 5 = c → I' 78 6 = nI u → (c = 119 → I' 78 7 = nI v ∧ I' 78 8 = nI w) → Q (some (.int (bI true))) (I', J, KR p)) : E me_X6_readOrder d L 64 [some (.ref 78)] [] I1 J p Q := by
  have e79 : I1 79 = I 79 := hs.1 79 (by decide)
  refine ev_aload_n (pc := 64) dX6_readOrder_64 rfl (ev_aload_n (pc := 65) dX6_readOrder_65 rfl (ev_invV (pc := 66) kV_6_35 dX6_readOrder_66 rfl rfl rfl (by omega) rfl ?_))
  refine t_readNumber (a := a + 1) (by omega) hn ha hn60 (by omega) (fun e => ?_) (fun u b e => ?_)
  · rw [e79] at e
    have er : rdO (sgT (I 79) n) a = none := by
      rcases hc with hc | hc
      · rw [rdO_w (hg.trans hc), e]
      · rw [rdO_1 (by rw [hg]; exact hc), e]
    refine ev_puti (pc := 69) kF_6_38 dX6_readOrder_69 rfl rfl rfl rfl rfl (ev_aload_n (pc := 72) dX6_readOrder_72 rfl (ev_geti (pc := 73) kF_6_38 dX6_readOrder_73 rfl rfl (ev_iconst (pc := 76) (v := (-1)) dX6_readOrder_76 iconst_cm1 (ev_icmp_eq (pc := 77) 105 dX6_readOrder_77 (by decide) (kf := fun c => absurd (by simp [ui]) c) (kt := fun c77 => ev_iconst (pc := 105) (v := (0)) dX6_readOrder_105 iconst_c0 (ev_zret (pc := 106) dX6_readOrder_106 rfl (bI_01 false) ?_))))))
    exact h1 er _ (sameO_ui hs (by decide)) (by simpa [ui] using i3) (by simpa [ui] using i4)
  · rw [e79] at e
    obtain ⟨b1, b2, b3⟩ := rdN_lt e
    refine ev_puti (pc := 69) kF_6_38 dX6_readOrder_69 rfl rfl rfl rfl rfl (ev_aload_n (pc := 72) dX6_readOrder_72 rfl (ev_geti (pc := 73) kF_6_38 dX6_readOrder_73 rfl rfl (ev_iconst (pc := 76) (v := (-1)) dX6_readOrder_76 iconst_cm1 (ev_icmp_eq (pc := 77) 105 dX6_readOrder_77 (by decide) (kt := fun c => absurd c (by simp [ui]; exact nI_ne_m1 (by omega))) (kf := fun c77 => ev_aload_n (pc := 80) dX6_readOrder_80 rfl (ev_geti (pc := 81) kF_6_32 dX6_readOrder_81 rfl rfl (ev_bipush (pc := 84) (v := (119)) dX6_readOrder_84 bipush_c119 (?_))))))))
    generalize hI2 : ui (ui I1 78 2 (nI b)) 78 6 (nI u) = I2
    have s2 : sameO I I2 := by rw [← hI2]; exact sameO_ui (sameO_ui hs (by decide)) (by decide)
    have n2 : I2 78 1 = nI n := by rw [s2.2, ← hs.2, hn]
    have a2 : I2 78 2 = nI b := by rw [← hI2]; simp [ui]
    have t2 : I2 78 3 = nI a := by rw [← hI2]; simpa [ui] using i3
    have o2 : I2 78 4 = I 78 4 := by rw [← hI2]; simpa [ui] using i4
    have c2 : I2 78 5 = c := by rw [← hI2]; simpa [ui] using i5
    have u2 : I2 78 6 = nI u := by rw [← hI2]; simp [ui]
    have f79 : I2 79 = I 79 := s2.1 79 (by decide)
    by_cases hw : c = 119
    · have er := rdO_w (hg.trans hw)
      rw [e] at er
      dsimp only at er
      refine ev_icmp_ne (pc := 86) 96 dX6_readOrder_86 (by decide) (kt := fun c => absurd (by rw [c2, hw]) c) (kf := fun c86 => ev_aload_n (pc := 89) dX6_readOrder_89 rfl (ev_invV (pc := 90) kV_6_41 dX6_readOrder_90 rfl rfl rfl (by omega) rfl ?_))
      refine t_rsl (by omega) n2 a2 hn60 (by omega) (fun e2 I3 s3 => ?_) (fun v w cc e2 I3 s3 g2 g7 g8 => ?_)
      · rw [f79] at e2
        rw [e2] at er
        refine ev_ifb_eq (pc := 93) 105 dX6_readOrder_93 (by decide) (kf := fun c => absurd c (by decide)) (kt := fun c93 => ev_iconst (pc := 105) (v := (0)) dX6_readOrder_105 iconst_c0 (ev_zret (pc := 106) dX6_readOrder_106 rfl (bI_01 false) ?_))
        exact h1 er _ (s3.o s2) ((s3.2 3 (by decide) (by decide) (by decide)).trans t2) ((s3.2 4 (by decide) (by decide) (by decide)).trans o2)
      · rw [f79] at e2
        rw [e2] at er
        dsimp only at er
        have hcc : cc ≤ 190 := by
          unfold rsl at e2
          split at e2
          · unfold rdS at e2
            cases q1 : rdN (sgT (I 79) n) (b + 1) with
            | none => rw [q1] at e2; cases e2
            | some z =>
              obtain ⟨z1, z2⟩ := z
              have l1 := rdN_lt q1
              rw [q1] at e2
              dsimp only at e2
              split at e2
              · cases e2
              · rename_i w1 w2 hw2
                split at hw2
                · cases hw2
                  split at e2
                  · cases e2
                  · rename_i w3 w4 hw4
                    have l2 := rdN_lt hw4
                    cases e2
                    omega
                · cases hw2
          · cases e2
        refine ev_ifb_eq (pc := 93) 105 dX6_readOrder_93 (by decide) (kt := fun c => absurd c (by decide)) (kf := fun c93 => ?_)
        refine en_ro_end (I := I) (n := n) (a := a) (b := cc) (by omega) ((s3.2 1 (by decide) (by decide) (by decide)).trans n2) g2 hn60 hcc (s3.o s2) ((s3.2 3 (by decide) (by decide) (by decide)).trans t2) ((s3.2 4 (by decide) (by decide) (by decide)).trans o2) (fun k => ?_) (fun k => ?_)
        · rw [if_neg k] at er
          exact h1 er
        · rw [if_pos k, ← hw] at er
          have s4 := s3.o s2
          refine h2 u v w (cc + 1) er _ (sameO_ui (sameO_ui s4 (by decide)) (by decide)) ?_ ?_ ?_ ?_ ?_ fun _ => ⟨?_, ?_⟩
          · simpa [ui] using (s3.2 3 (by decide) (by decide) (by decide)).trans t2
          · simp [ui]
          · simp [ui]
          · simpa [ui] using (s3.2 5 (by decide) (by decide) (by decide)).trans c2
          · simpa [ui] using (s3.2 6 (by decide) (by decide) (by decide)).trans u2
          · simpa [ui] using g7
          · simpa [ui] using g8
    · have hc3 : c = 100 ∨ c = 99 ∨ c = 122 := by
        rcases hc with q | q
        · exact absurd q hw
        · exact q
      have er := rdO_1 (g := sgT (I 79) n) (a := a) (by rw [hg]; exact hc3)
      rw [e] at er
      dsimp only at er
      refine ev_icmp_ne (pc := 86) 96 dX6_readOrder_86 (by decide) (kf := fun c => absurd c (by rw [c2]; exact hw)) (kt := fun c86 => ?_)
      refine en_ro_end (I := I) (n := n) (a := a) (b := b) (by omega) n2 a2 hn60 (by omega) s2 t2 o2 (fun k => ?_) (fun k => ?_)
      · rw [if_neg k] at er
        exact h1 er
      · rw [if_pos k, hg] at er
        refine h2 u 0 0 (b + 1) er _ (sameO_ui (sameO_ui s2 (by decide)) (by decide)) ?_ ?_ ?_ ?_ ?_ fun q => absurd q hw
        · simpa [ui] using t2
        · simp [ui]
        · simp [ui]
        · simpa [ui] using c2
        · simpa [ui] using u2
theorem t_readOrder (hd : 5 ≤ d) {n a : Nat} (hn : I 78 1 = nI n) (ha : I 78 2 = nI a) (hn60 : n ≤ 60) (ha60 : a < n)
    (h1 : rdO (sgT (I 79) n) a = none → ∀ I', sameO I I' → I' 78 3 = nI a → I' 78 4 = I 78 4 → Q (some (.int (bI false))) (I', J, KR p))
    (h2 : ∀ c u v w e, rdO (sgT (I 79) n) a = some (c, u, v, w, e) → (c = 119 ∨ c = 100 ∨ c = 99 ∨ c = 122) → ∀ I', sameO I I' → I' 78 3 = nI a → I' 78 4 = I 78 4 + 1 → I' 78 2 = nI e → I' 78 5 = c → I' 78 6 = nI u → (c = 119 → I' 78 7 = nI v ∧ I' 78 8 = nI w) → Q (some (.int (bI true))) (I', J, KR p)) : T d me_X6_readOrder [.ref 78] L I J p Q := by
  refine am_enter [some (.ref 78)] rfl rfl rfl rfl ?_
  refine ev_aload_n (pc := 0) dX6_readOrder_0 rfl (ev_aload_n (pc := 1) dX6_readOrder_1 rfl (ev_geti (pc := 2) kF_6_19 dX6_readOrder_2 rfl rfl (ev_puti (pc := 5) kF_6_22 dX6_readOrder_5 rfl rfl rfl rfl rfl (ev_aload_n (pc := 8) dX6_readOrder_8 rfl (ev_aload_n (pc := 9) dX6_readOrder_9 rfl (ev_invV (pc := 10) kV_6_28 dX6_readOrder_10 rfl rfl rfl (by omega) rfl ?_))))))
  refine t_signHere (n := n) (a := a) (by simpa [ui] using hn) (by simpa [ui] using ha) hn60 (by omega) ?_
  have e79 : ui I 78 3 (I 78 2) 79 = I 79 := by funext j; simp [ui]
  rw [e79]
  refine ev_puti (pc := 13) kF_6_32 dX6_readOrder_13 rfl rfl rfl rfl rfl (ev_aload_n (pc := 16) dX6_readOrder_16 rfl (ev_dup (pc := 17) dX6_readOrder_17 rfl (ev_geti (pc := 18) kF_6_19 dX6_readOrder_18 rfl rfl (ev_iconst (pc := 21) (v := (1)) dX6_readOrder_21 iconst_c1 (ev_iadd (pc := 22) dX6_readOrder_22 (?_))))))
  have eat : ui (ui I 78 3 (I 78 2)) 78 5 (sgT (I 79) n a) 78 2 + 1 = nI (a + 1) := by
    rw [show ui (ui I 78 3 (I 78 2)) 78 5 (sgT (I 79) n a) 78 2 = I 78 2 by simp [ui], ha]
    exact nI_1 a
  rw [eat]
  refine ev_puti (pc := 23) kF_6_19 dX6_readOrder_23 rfl rfl rfl rfl rfl (?_)
  generalize hI2 : ui (ui (ui I 78 3 (I 78 2)) 78 5 (sgT (I 79) n a)) 78 2 (nI (a + 1)) = I2
  have s2 : sameO I I2 := by rw [← hI2]; exact sameO_ui (sameO_ui (sameO_ui (sameO_rf I) (by decide)) (by decide)) (by decide)
  have n2 : I2 78 1 = nI n := by rw [s2.2, hn]
  have a2 : I2 78 2 = nI (a + 1) := by rw [← hI2]; simp [ui]
  have t2 : I2 78 3 = nI a := by rw [← hI2]; simpa [ui] using ha
  have o2 : I2 78 4 = I 78 4 := by rw [← hI2]; simp [ui]
  have c2 : I2 78 5 = sgT (I 79) n a := by rw [← hI2]; simp [ui]
  have fin : ∀ c : Int32, (c = 119 ∨ c = 100 ∨ c = 99 ∨ c = 122) → sgT (I 79) n a = c → E me_X6_readOrder d L 64 [some (.ref 78)] [] I2 J p Q := fun c hc hg => en_ro (I := I) (by omega) hc hg n2 a2 hn60 ha60 s2 t2 o2 (c2.trans hg) h1 (fun u v w e he => h2 c u v w e he hc)
  refine ev_aload_n (pc := 26) dX6_readOrder_26 rfl (ev_geti (pc := 27) kF_6_32 dX6_readOrder_27 rfl rfl (ev_bipush (pc := 30) (v := (119)) dX6_readOrder_30 bipush_c119 (ev_icmp_eq (pc := 32) 64 dX6_readOrder_32 (by decide) (fun c32 => ?_) (fun c32 => ?_))))
  · exact fin 119 (by simp) (c2 ▸ c32)
  · refine ev_aload_n (pc := 35) dX6_readOrder_35 rfl (ev_geti (pc := 36) kF_6_32 dX6_readOrder_36 rfl rfl (ev_bipush (pc := 39) (v := (100)) dX6_readOrder_39 bipush_c100 (ev_icmp_eq (pc := 41) 64 dX6_readOrder_41 (by decide) (fun c41 => ?_) (fun c41 => ?_))))
    · exact fin 100 (by simp) (c2 ▸ c41)
    · refine ev_aload_n (pc := 44) dX6_readOrder_44 rfl (ev_geti (pc := 45) kF_6_32 dX6_readOrder_45 rfl rfl (ev_bipush (pc := 48) (v := (99)) dX6_readOrder_48 bipush_c99 (ev_icmp_eq (pc := 50) 64 dX6_readOrder_50 (by decide) (fun c50 => ?_) (fun c50 => ?_))))
      · exact fin 99 (by simp) (c2 ▸ c50)
      · refine ev_aload_n (pc := 53) dX6_readOrder_53 rfl (ev_geti (pc := 54) kF_6_32 dX6_readOrder_54 rfl rfl (ev_bipush (pc := 57) (v := (122)) dX6_readOrder_57 bipush_c122 (ev_icmp_eq (pc := 59) 64 dX6_readOrder_59 (by decide) (fun c59 => ?_) (fun c59 => ?_))))
        · exact fin 122 (by simp) (c2 ▸ c59)
        · refine ev_iconst (pc := 62) (v := (0)) dX6_readOrder_62 iconst_c0 (ev_zret (pc := 63) dX6_readOrder_63 rfl (bI_01 false) ?_)
          rw [c2] at c32 c41 c50 c59
          refine h1 ?_ I2 s2 t2 o2
          unfold rdO
          rw [if_neg c32, if_neg (by simp only [c41, c50, c59, or_self, not_false_eq_true])]
end T22
