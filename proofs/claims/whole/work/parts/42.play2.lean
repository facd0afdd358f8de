/-! ===== runOrders, fault, play ===== -/
def rfr (I I' : Nat → Nat → Int32) : Prop := (∀ a, (a < 2 ∨ (20 < a ∧ a ≠ 78 ∧ a ≠ 80 ∧ a ≠ 81)) → I' a = I a) ∧ I' 78 1 = I 78 1
theorem rfr_rf (I : Nat → Nat → Int32) : rfr I I := ⟨fun _ _ => rfl, rfl⟩
theorem rfr_o {I I1 I2 : Nat → Nat → Int32} (h : rfr I I1) (h2 : ofr I1 I2) : rfr I I2 := ⟨fun a ha => (h2 a (by omega)).trans (h.1 a ha), by rw [h2 78 (by omega)]; exact h.2⟩
theorem rfr_s {I I1 I2 : Nat → Nat → Int32} (h : rfr I I1) (h2 : sameO I1 I2) : rfr I I2 := ⟨fun a ha => (h2.1 a (by omega)).trans (h.1 a ha), h2.2.trans h.2⟩
section T42
variable {d L : Nat} {I : Nat → Nat → Int32} {J : Nat → Nat → Int64} {p : Nat → Nat} {Q : Option Value → am_M → Prop} {s : Sta}
theorem en_run {r i : Nat} (hr : r = 1 ∨ r = 2 ∨ r = 3) (hi : i < 60) (k : Q (some (.int (nI r))) (I, J, KR p)) : E me_X7_runOrders d L 70 [some (.ref 1), some (.int (nI r)), some (.int (nI i))] [] I J p Q := by
  by_cases q : i + 1 < 60
  · refine ev_iinc (pc := 70) dX7_runOrders_70 rfl (iinc_1 _) rfl (ev_goto (pc := 73) 11 dX7_runOrders_73 (by decide) (?_))
    refine ev_iload_n (pc := 11) dX7_runOrders_11 rfl (ev_bipush (pc := 12) (v := (60)) dX7_runOrders_12 bipush_c60 (ev_ncmp_ge (pc := 14) 76 (i + 1) (60) dX7_runOrders_14 (by decide) (rfl) (rfl) (by omega) (by omega) (kt := fun c => absurd c (by omega)) (kf := fun c14 => ev_iload_n (pc := 17) dX7_runOrders_17 rfl (ev_if_ne (pc := 18) 76 dX7_runOrders_18 (by decide) (kf := fun c => absurd c (nI_ne0 (by omega) (by omega))) (kt := fun c18 => ev_iload_n (pc := 76) dX7_runOrders_76 rfl (ev_iret (pc := 77) dX7_runOrders_77 rfl ?_))))))
    exact k
  · refine ev_iinc (pc := 70) dX7_runOrders_70 rfl (iinc_1 _) rfl (ev_goto (pc := 73) 11 dX7_runOrders_73 (by decide) (?_))
    refine ev_iload_n (pc := 11) dX7_runOrders_11 rfl (ev_bipush (pc := 12) (v := (60)) dX7_runOrders_12 bipush_c60 (ev_ncmp_ge (pc := 14) 76 (i + 1) (60) dX7_runOrders_14 (by decide) (rfl) (rfl) (by omega) (by omega) (kf := fun c => absurd c (by omega)) (kt := fun c14 => ev_iload_n (pc := 76) dX7_runOrders_76 rfl (ev_iret (pc := 77) dX7_runOrders_77 rfl ?_))))
    exact k
theorem lp_run (hd : 8 ≤ d) {tn : Nat} {tx : Nat → Int32} (htn : tn ≤ 60) (I : Nat → Nat → Int32) (h78 : I 78 1 = nI tn) (h79 : ∀ i, i < tn → I 79 i = tx i) : ∀ (n i a st m : Nat) (D : Nat → Int32) (I1 : Nat → Nat → Int32) (J1 : Nat → Nat → Int64), i + n = 60 → i ≤ a → a ≤ 60 → m ≤ i → Rep I1 2 D → wfD D → rfr I I1 → I1 78 2 = nI a → I1 78 3 = nI st → I1 78 4 = nI m →
    (∀ I' J', Rep I' 2 (rnO (sgT tx tn) tn n a st m D).2.2.2 → rfr I I' → I' 78 3 = nI (rnO (sgT tx tn) tn n a st m D).2.1 → I' 78 4 = nI (rnO (sgT tx tn) tn n a st m D).2.2.1 → Q (some (.int (nI (rnO (sgT tx tn) tn n a st m D).1))) (I', J', KR p)) →
    E me_X7_runOrders d L 11 [some (.ref 1), some (.int (nI 0)), some (.int (nI i))] [] I1 J1 p Q
  | 0, i, a, st, m, D, I1, J1, hi, hia, ha, hm, h, hw, hf, e2, e3, e4, k => by
    refine ev_iload_n (pc := 11) dX7_runOrders_11 rfl (ev_bipush (pc := 12) (v := (60)) dX7_runOrders_12 bipush_c60 (ev_ncmp_ge (pc := 14) 76 (i) (60) dX7_runOrders_14 (by decide) (rfl) (rfl) (by omega) (by omega) (kf := fun c => absurd c (by omega)) (kt := fun c14 => ev_iload_n (pc := 76) dX7_runOrders_76 rfl (ev_iret (pc := 77) dX7_runOrders_77 rfl ?_))))
    exact k I1 J1 h hf e3 e4
  | n + 1, i, a, st, m, D, I1, J1, hi, hia, ha, hm, h, hw, hf, e2, e3, e4, k => by
    simp only [rnO] at k
    have g78 : I1 78 1 = nI tn := hf.2.trans h78
    have hg : sgT (I1 79) tn = sgT tx tn := by
      funext j
      unfold sgT
      by_cases q : j < tn
      · rw [if_pos q, if_pos q, hf.1 79 (by omega), h79 j q]
      · rw [if_neg q, if_neg q]
    refine ev_iload_n (pc := 11) dX7_runOrders_11 rfl (ev_bipush (pc := 12) (v := (60)) dX7_runOrders_12 bipush_c60 (ev_ncmp_ge (pc := 14) 76 (i) (60) dX7_runOrders_14 (by decide) (rfl) (rfl) (by omega) (by omega) (kt := fun c => absurd c (by omega)) (kf := fun c14 => ev_iload_n (pc := 17) dX7_runOrders_17 rfl (ev_if_ne (pc := 18) 76 dX7_runOrders_18 (by decide) (kt := fun c => absurd (rfl) c) (kf := fun c18 => ev_aload_n (pc := 21) dX7_runOrders_21 rfl (ev_getr (pc := 22) kF_7_33 dX7_runOrders_22 rfl rfl rfl (ev_invV (pc := 25) kV_7_274 dX7_runOrders_25 rfl rfl rfl (by omega) rfl ?_)))))))
    refine t_hasMore g78 e2 htn (by omega) ?_
    by_cases q : tn ≤ a
    · rw [if_pos q] at k
      rw [decide_eq_false (show ¬ a < tn by omega)]
      refine ev_ifb_eq (pc := 28) 76 dX7_runOrders_28 (by decide) (kf := fun c => absurd c (by simp)) (kt := fun c28 => ev_iload_n (pc := 76) dX7_runOrders_76 rfl (ev_iret (pc := 77) dX7_runOrders_77 rfl ?_))
      exact k I1 J1 h hf e3 e4
    rw [if_neg q] at k
    rw [decide_eq_true (show a < tn by omega)]
    refine ev_ifb_eq (pc := 28) 76 dX7_runOrders_28 (by decide) (kt := fun c => absurd c (by simp)) (kf := fun c28 => ev_aload_n (pc := 31) dX7_runOrders_31 rfl (ev_getr (pc := 32) kF_7_33 dX7_runOrders_32 rfl rfl rfl (ev_invV (pc := 35) kV_7_278 dX7_runOrders_35 rfl rfl rfl (by omega) rfl ?_)))
    refine t_readOrder (by omega) g78 e2 htn (by omega) (fun hq I2 s2 t3 t4 => ?_) (fun c u v w e hq hc I2 s2 t3 t4 t2 t5 t6 t78 => ?_)
    · rw [hg] at hq
      rw [hq] at k
      refine ev_ifb_ne (pc := 38) 46 dX7_runOrders_38 (by decide) (kt := fun c => absurd c (by simp)) (kf := fun c38 => ev_iconst (pc := 41) (v := (1)) dX7_runOrders_41 iconst_c1 (ev_istore_n (pc := 42) dX7_runOrders_42 rfl (ev_goto (pc := 43) 70 dX7_runOrders_43 (by decide) (?_))))
      refine en_run (r := 1) (Or.inl rfl) (by omega) (k I2 J1 (Rep_frame h fun c h1 h2 => s2.1 c (by omega)) (rfr_s hf s2) t3 (by rw [t4, e4]))
    · rw [hg] at hq
      have r := rdO_lt hq
      rw [hq] at k
      dsimp only at k
      have f2 := rfr_s hf s2
      have r2 : Rep I2 2 D := Rep_frame h fun c h1 h2 => s2.1 c (by omega)
      have t4' : I2 78 4 = nI (m + 1) := by rw [t4, e4, nI_1]
      refine ev_ifb_ne (pc := 38) 46 dX7_runOrders_38 (by decide) (kf := fun c => absurd c (by simp)) (kt := fun c38 => ev_aload_n (pc := 46) dX7_runOrders_46 rfl (ev_getr (pc := 47) kF_7_33 dX7_runOrders_47 rfl rfl rfl (ev_invV (pc := 50) kV_7_281 dX7_runOrders_50 rfl rfl rfl (by omega) rfl ?_)))
      refine t_numbersFit hc t5 t6 r.2.2.1 r.2.2.2.1 r.2.2.2.2.1 t78 ?_
      cases hfit : fitO c u v w
      · rw [hfit, if_neg (by decide)] at k
        refine ev_ifb_ne (pc := 53) 61 dX7_runOrders_53 (by decide) (kt := fun c => absurd c (by simp)) (kf := fun c53 => ev_iconst (pc := 56) (v := (2)) dX7_runOrders_56 iconst_c2 (ev_istore_n (pc := 57) dX7_runOrders_57 rfl (ev_goto (pc := 58) 70 dX7_runOrders_58 (by decide) (?_))))
        refine en_run (r := 2) (Or.inr (Or.inl rfl)) (by omega) (k I2 J1 r2 f2 t3 t4')
      · rw [hfit, if_pos rfl] at k
        refine ev_ifb_ne (pc := 53) 61 dX7_runOrders_53 (by decide) (kf := fun c => absurd c (by simp)) (kt := fun c53 => ev_aload_n (pc := 61) dX7_runOrders_61 rfl (ev_invV (pc := 62) kV_7_284 dX7_runOrders_62 rfl rfl rfl (by omega) rfl ?_))
        refine t_doOrder (by omega) r2 hw hfit hc r.2.2.1 t5 t6 t78 fun I3 J3 r3 o3 => ?_
        have f3 := rfr_o f2 o3
        by_cases neg : (doD D c u v w).1 < 0
        · rw [if_pos neg] at k
          rw [do_err hw hfit hc neg] at r3
          refine ev_if_ge (pc := 65) 70 dX7_runOrders_65 (by decide) (kt := fun c => absurd c (Int32.not_le.mpr neg)) (kf := fun c65 => ev_iconst (pc := 68) (v := (3)) dX7_runOrders_68 iconst_c3 (ev_istore_n (pc := 69) dX7_runOrders_69 rfl (?_)))
          refine en_run (r := 3) (Or.inr (Or.inr rfl)) (by omega) (k I3 J3 r3 f3 (by rw [o3 78 (by omega)]; exact t3) (by rw [o3 78 (by omega)]; exact t4'))
        · rw [if_neg neg] at k
          refine ev_if_ge (pc := 65) 70 dX7_runOrders_65 (by decide) (kf := fun c => absurd (Int32.not_lt.mp neg) c) (kt := fun c65 => ev_iinc (pc := 70) dX7_runOrders_70 rfl (iinc_1 _) rfl (ev_goto (pc := 73) 11 dX7_runOrders_73 (by decide) (?_)))
          refine lp_run hd htn I h78 h79 n (i + 1) e a (m + 1) _ I3 J3 (by omega) (by omega) (by omega) (by omega) r3 (do_wf hw hfit hc) f3 (by rw [o3 78 (by omega)]; exact t2) (by rw [o3 78 (by omega)]; exact t3) (by rw [o3 78 (by omega)]; exact t4') k
theorem t_runOrders (hd : 9 ≤ d) (hc : Cls I p s) (hw : Wst s) (k : ∀ I' J', Rep I' 2 (runD s).2.2.2 → rfr I I' → I' 78 3 = nI (runD s).2.1 → I' 78 4 = nI (runD s).2.2.1 → Q (some (.int (nI (runD s).1))) (I', J', KR p)) : T d me_X7_runOrders [.ref 1] L I J p Q := by
  refine am_enter [some (.ref 1), none, none] rfl rfl rfl rfl ?_
  refine ev_aload_n (pc := 0) dX7_runOrders_0 rfl (ev_getr (pc := 1) kF_7_33 dX7_runOrders_1 rfl rfl rfl (ev_invV (pc := 4) kV_7_271 dX7_runOrders_4 rfl rfl rfl (by omega) rfl ?_))
  refine t_rewind ?_
  refine ev_iconst (pc := 7) (v := (0)) dX7_runOrders_7 iconst_c0 (ev_istore_n (pc := 8) dX7_runOrders_8 rfl (ev_iconst (pc := 9) (v := (0)) dX7_runOrders_9 iconst_c0 (ev_istore_n (pc := 10) dX7_runOrders_10 rfl (?_))))
  have hs : sameO I (ui (ui (ui I 78 2 0) 78 3 0) 78 4 0) := sameO_ui (sameO_ui (sameO_ui (sameO_rf I) (by decide)) (by decide)) (by decide)
  exact lp_run (by omega) hw.2.2.2.1 I hc.2.2.2.2.1 hc.2.2.2.2.2 60 0 0 0 0 s.1 _ J (by omega) (by omega) (by omega) (by omega) (Rep_frame hc.2.1 fun c h1 h2 => hs.1 c (by omega)) hw.1 (rfr_s (rfr_rf I) hs) (by simp [ui]; rfl) (by simp [ui]; rfl) (by simp [ui]; rfl) k
theorem rn_le {f : Nat → Int32} {tn : Nat} : ∀ n a st m D, (rnO (sgT f tn) tn n a st m D).1 ≤ 3 ∧ (rnO (sgT f tn) tn n a st m D).2.2.1 ≤ m + n
  | 0, a, st, m, D => ⟨Nat.zero_le _, Nat.le_refl _⟩
  | n + 1, a, st, m, D => by
    simp only [rnO]
    split
    · exact ⟨Nat.zero_le _, by dsimp only; omega⟩
    · split
      · exact ⟨by dsimp only; omega, by dsimp only; omega⟩
      · split
        · split
          · exact ⟨by dsimp only; omega, by dsimp only; omega⟩
          · rename_i c u v w e _ _ _
            have := rn_le (f := f) (tn := tn) n e a (m + 1) (doD D c u v w).2
            exact ⟨this.1, by omega⟩
        · exact ⟨by dsimp only; omega, by dsimp only; omega⟩
theorem t_back (hd : 4 ≤ d) {I1 I2 : Nat → Nat → Int32} (hc : Cls I p s) (hw : Wst s) (h1 : copC I I1 (p s.2.1) 2) (h2 : rfr I1 I2) (k : ∀ I', Cls I' p s → cfr I I' → (∀ i, I' 78 i = I2 78 i) → Q none (I', J, KR p)) : T d me_X3_restoreDraft [.ref 21, .ref 2] L I2 J p Q := by
  obtain ⟨⟨⟨z1, z2, z3, z4, z5, z6⟩, z7⟩, m2⟩ := Mid_of hc hw.2.1 h1
  have w2 := hw.2.1
  have rf : ∀ {i : Nat} {D : Nat → Int32}, i < 5 → Rep I1 (p i) D → Rep I2 (p i) D := fun {i D} hi h => by
    have := z1.rng hi
    exact Rep_frame h fun c a b => h2.1 c (by omega)
  refine t_restore (by omega) z1 (by rw [h2.1 21 (by omega)]; exact z3) w2 fun I' hr => ?_
  refine k I' ⟨z1, Rep_cop hr (rf (by omega) z7), by rw [hr.2.2.2 21 (by omega), h2.1 21 (by omega)]; exact z3, fun i hi => ?_, by rw [hr.2.2.2 78 (by omega), h2.2]; exact z5, fun i hi => by rw [hr.2.2.2 79 (by omega), h2.1 79 (by omega)]; exact z6 i hi⟩ (fun a ha => by rw [hr.2.2.2 a (by omega), h2.1 a (by omega), m2 a ha]) (fun i => by rw [hr.2.2.2 78 (by omega)])
  have := z1.rng (i := i) (by omega)
  exact Rep_away hr (rf (by omega) (z4 i hi)) (by omega)
theorem c_fault (hd : 10 ≤ d) (hc : Cls I p s) (hw : Wst s) (a : Int32) (k : ∀ I' J', Cls I' p s → cfr I I' → Q (some (.int (oFault s a))) (I', J', KR p)) : T d me_X7_fault [.ref 1, .int a] L I J p Q := by
  refine am_enter [some (.ref 1), some (.int a), none] rfl rfl rfl rfl ?_
  unfold oFault at k
  refine ev_iload_n (pc := 0) dX7_fault_0 rfl (ev_iconst (pc := 1) (v := (0)) dX7_fault_1 iconst_c0 (ev_iconst (pc := 2) (v := (1)) dX7_fault_2 iconst_c1 (ev_invS (pc := 3) kS_7_48 dX7_fault_3 rfl (by omega) rfl ?_)))
  refine t_within 0 1 a ?_
  cases q1 : inR 0 1 a
  · rw [q1, if_neg (by decide)] at k
    refine ev_ifb_ne (pc := 6) 12 dX7_fault_6 (by decide) (kt := fun c => absurd c (by simp)) (kf := fun c6 => ev_ldc (pc := 9) kC_7_58 dX7_fault_9 (ev_iret (pc := 11) dX7_fault_11 rfl ?_))
    exact k _ _ hc (cfr_rf I)
  rw [q1, if_pos rfl] at k
  refine ev_ifb_ne (pc := 6) 12 dX7_fault_6 (by decide) (kf := fun c => absurd c (by simp)) (kt := fun c6 => ev_aload_n (pc := 12) dX7_fault_12 rfl (ev_getr (pc := 13) kF_7_26 dX7_fault_13 rfl rfl rfl (ev_aload_n (pc := 16) dX7_fault_16 rfl (ev_getr (pc := 17) kF_7_10 dX7_fault_17 rfl rfl rfl (ev_invV (pc := 20) kV_7_59 dX7_fault_20 rfl rfl rfl (by omega) rfl ?_)))))
  refine t_draft (by omega) hc.1 hc.2.2.1 hw.2.1 fun I1 h1 => ?_
  obtain ⟨m1, m2⟩ := Mid_of hc hw.2.1 h1
  refine ev_aload_n (pc := 23) dX7_fault_23 rfl (ev_invV (pc := 24) kV_7_249 dX7_fault_24 rfl rfl rfl (by omega) rfl ?_)
  refine t_runOrders (by omega) m1.1 hw fun I2 J2 r2 f2 t3 t4 => ?_
  refine ev_istore_n (pc := 27) dX7_fault_27 rfl (ev_aload_n (pc := 28) dX7_fault_28 rfl (ev_getr (pc := 29) kF_7_26 dX7_fault_29 rfl rfl rfl (ev_aload_n (pc := 32) dX7_fault_32 rfl (ev_getr (pc := 33) kF_7_10 dX7_fault_33 rfl rfl rfl (ev_invV (pc := 36) kV_7_252 dX7_fault_36 rfl rfl rfl (by omega) rfl ?_)))))
  refine t_back (by omega) hc hw h1 f2 fun I3 e3 e4 e5 => ?_
  by_cases q : (runD s).1 = 0
  · rw [if_pos q] at k
    rw [q]
    refine ev_iload_n (pc := 39) dX7_fault_39 rfl (ev_if_ne (pc := 40) 46 dX7_fault_40 (by decide) (kt := fun c => absurd (rfl) c) (kf := fun c40 => ev_ldc (pc := 43) kC_7_110 dX7_fault_43 (ev_iret (pc := 45) dX7_fault_45 rfl ?_)))
    exact k _ _ e3 e4
  · rw [if_neg q] at k
    have hb : (runD s).1 ≤ 3 := (rn_le _ _ _ _ _).1
    by_cases qa : a = 0
    · rw [if_pos qa] at k
      refine ev_iload_n (pc := 39) dX7_fault_39 rfl (ev_if_ne (pc := 40) 46 dX7_fault_40 (by decide) (kf := fun c => absurd c (nI_ne0 (by omega) (by omega))) (kt := fun c40 => ev_iload_n (pc := 46) dX7_fault_46 rfl (ev_if_ne (pc := 47) 60 dX7_fault_47 (by decide) (kt := fun c => absurd (qa) c) (kf := fun c47 => ev_aload_n (pc := 50) dX7_fault_50 rfl (ev_getr (pc := 51) kF_7_33 dX7_fault_51 rfl rfl rfl (ev_geti (pc := 54) kF_7_255 dX7_fault_54 rfl rfl (ev_goto (pc := 57) 61 dX7_fault_57 (by decide) (ev_iret (pc := 61) dX7_fault_61 rfl ?_))))))))
      rw [e5 3, t3]
      exact k _ _ e3 e4
    · rw [if_neg qa] at k
      refine ev_iload_n (pc := 39) dX7_fault_39 rfl (ev_if_ne (pc := 40) 46 dX7_fault_40 (by decide) (kf := fun c => absurd c (nI_ne0 (by omega) (by omega))) (kt := fun c40 => ev_iload_n (pc := 46) dX7_fault_46 rfl (ev_if_ne (pc := 47) 60 dX7_fault_47 (by decide) (kf := fun c => absurd c (qa)) (kt := fun c47 => ev_iload_n (pc := 60) dX7_fault_60 rfl (ev_iret (pc := 61) dX7_fault_61 rfl ?_)))))
      exact k _ _ e3 e4
theorem c_play (hd : 10 ≤ d) (hc : Cls I p s) (hw : Wst s) (k : ∀ I' J' p', Cls I' p' (oPlay s).2 → cfr I I' → Q (some (.int (oPlay s).1)) (I', J', KR p')) : T d me_X7_play [.ref 1] L I J p Q := by
  refine am_enter [some (.ref 1)] rfl rfl rfl rfl ?_
  unfold oPlay at k
  have hb : (runD s).1 ≤ 3 ∧ (runD s).2.2.1 ≤ 0 + 60 := rn_le _ _ _ _ _
  refine ev_aload_n (pc := 0) dX7_play_0 rfl (ev_getr (pc := 1) kF_7_26 dX7_play_1 rfl rfl rfl (ev_aload_n (pc := 4) dX7_play_4 rfl (ev_getr (pc := 5) kF_7_10 dX7_play_5 rfl rfl rfl (ev_invV (pc := 8) kV_7_59 dX7_play_8 rfl rfl rfl (by omega) rfl ?_))))
  refine t_draft (by omega) hc.1 hc.2.2.1 hw.2.1 fun I1 h1 => ?_
  obtain ⟨m1, m2⟩ := Mid_of hc hw.2.1 h1
  refine ev_aload_n (pc := 11) dX7_play_11 rfl (ev_invV (pc := 12) kV_7_249 dX7_play_12 rfl rfl rfl (by omega) rfl ?_)
  refine t_runOrders (by omega) m1.1 hw fun I2 J2 r2 f2 t3 t4 => ?_
  by_cases q : (runD s).1 = 0
  · rw [if_pos q] at k
    rw [q]
    refine ev_if_eq (pc := 15) 32 dX7_play_15 (by decide) (kf := fun c => absurd (rfl) c) (kt := fun c15 => ev_aload_n (pc := 32) dX7_play_32 rfl (ev_aload_n (pc := 33) dX7_play_33 rfl (ev_getr (pc := 34) kF_7_33 dX7_play_34 rfl rfl rfl (ev_geti (pc := 37) kF_7_258 dX7_play_37 rfl rfl (ev_invV (pc := 40) kV_7_67 dX7_play_40 rfl rfl rfl (by omega) rfl ?_)))))
    rw [t4]
    refine t_settled (r := (nI (runD s).2.2.1, (runD s).2.2.2)) (by omega) m1 hw.2.1 (fun a ha => f2.1 a (by omega)) f2.2 r2 (fun e => (nI_le40 (by omega) e).elim) fun I' p' h2 h3 h4 => ?_
    refine ev_iret (pc := 43) dX7_play_43 rfl ?_
    refine k I' J2 p' h2 fun a ha => ?_
    rcases ha with e | e
    · subst e; rw [h4, f2.1 0 (by omega), m2 0 (by omega)]
    · rw [h3 a e, f2.1 a (by omega), m2 a (by omega)]
  · rw [if_neg q] at k
    refine ev_if_eq (pc := 15) 32 dX7_play_15 (by decide) (kt := fun c => absurd c (nI_ne0 (by omega) (by omega))) (kf := fun c15 => ev_aload_n (pc := 18) dX7_play_18 rfl (ev_getr (pc := 19) kF_7_26 dX7_play_19 rfl rfl rfl (ev_aload_n (pc := 22) dX7_play_22 rfl (ev_getr (pc := 23) kF_7_10 dX7_play_23 rfl rfl rfl (ev_invV (pc := 26) kV_7_252 dX7_play_26 rfl rfl rfl (by omega) rfl ?_)))))
    refine t_back (by omega) hc hw h1 f2 fun I3 e3 e4 e5 => ?_
    refine ev_ldc (pc := 29) kC_7_242 dX7_play_29 (ev_iret (pc := 31) dX7_play_31 rfl ?_)
    exact k _ _ _ e3 e4
end T42
