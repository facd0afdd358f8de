/-! ===== the reference: fault, play ===== -/
theorem do_ne {D : Nat → Int32} (hw : wfD D) {c : Int32} {u v w : Nat} (hf : fitO c u v w = true) (hc : c = 119 ∨ c = 100 ∨ c = 99 ∨ c = 122) : (doD D c u v w).1 ≠ -1000001 := by
  have n2 : (-1000002 : Int32) ≠ -1000001 := by decide
  have n3 : (-1000003 : Int32) ≠ -1000001 := by decide
  have nn : ∀ {m : Nat}, m < 2 ^ 31 → nI m ≠ -1000001 := fun h e => absurd (e ▸ nI_pos h) (by decide)
  rcases hc with rfl | rfl | rfl | rfl
  · rw [fi_w] at hf
    simp only [Bool.and_eq_true, decide_eq_true_eq] at hf
    rw [dd_w]
    unfold wrS
    split
    · exact n2
    · split
      · exact n3
      · rename_i q
        obtain ⟨o1, o2⟩ := chC_ok (lay := 0) (show w ≤ cntB (fD D) 40 by omega)
        exact nn (by have := o1.lt 0 (by omega); omega)
  · rw [dd_d]
    unfold dlS
    split
    · exact n2
    · exact nn (by have := cntB_le (fD (relD D u)) 40; omega)
  · rw [dd_c]
    unfold clS
    split
    · exact n2
    · split
      · exact n2
      · rename_i q1 q2
        obtain ⟨m1, m2, m3⟩ := gl_mem (getD_mem (show u < (glD D (fD D)).length by omega))
        have := pg_row hw m1 m3 m2
        have := wf_l hw m1 m3
        exact nn (by omega)
  · rw [fi_z] at hf
    rw [dd_z]
    unfold wpS
    split
    · exact n2
    · rcases (hw.1 u (by simpa using hf)).1 with e | e | e <;> dsimp only <;> rw [e] <;> decide
theorem asR_do {s : Sta} (hw : wfD s.1) {c : Int32} {u v w : Nat} (hc : c = 119 ∨ c = 100 ∨ c = 99 ∨ c = 122) : (fitO c u v w = false ∧ asR (doR s c u v w).1 = 2 ∧ (doR s c u v w).2 = s) ∨ (fitO c u v w = true ∧ (doD s.1 c u v w).1 < 0 ∧ asR (doR s c u v w).1 = 3 ∧ (doR s c u v w).2 = s) ∨ (fitO c u v w = true ∧ ¬ (doD s.1 c u v w).1 < 0 ∧ asR (doR s c u v w).1 = 0 ∧ (doR s c u v w).2 = ((doD s.1 c u v w).2, s.2)) := by
  unfold doR
  cases hf : fitO c u v w
  · rw [if_neg (by decide)]
    exact Or.inl ⟨rfl, show asR (-1000001) = 2 by decide, rfl⟩
  · rw [if_pos rfl]
    have hn := do_ne hw hf hc
    generalize doD s.1 c u v w = r at hn
    obtain ⟨v, D'⟩ := r
    by_cases q : v < 0
    · rw [setM_e q]
      refine Or.inr (Or.inl ⟨rfl, q, ?_, rfl⟩)
      unfold asR
      rw [if_pos q, if_neg hn]
    · rw [setM_p q]
      refine Or.inr (Or.inr ⟨rfl, q, ?_, rfl⟩)
      unfold asR
      rw [if_neg q]
def oF (I I' : Nat → Nat → Int32) : Prop := ∀ a, a < 82 ∨ a = 85 ∨ a = 87 ∨ 96 < a → I' a = I a
theorem rn_pos {f : Nat → Int32} {tn : Nat} : ∀ n a st m D, a ≤ tn → st ≤ tn → (rnO (sgT f tn) tn n a st m D).2.1 ≤ tn
  | 0, a, st, m, D, h1, h2 => h2
  | n + 1, a, st, m, D, h1, h2 => by
    simp only [rnO]
    split
    · exact h2
    · split
      · exact h1
      · rename_i c u v w e hq
        split
        · split
          · exact h1
          · exact rn_pos n e a (m + 1) _ (rdO_lt hq).2.1 h1
        · exact h1
section T66
variable {d L : Nat} {I : Nat → Nat → Int32} {J : Nat → Nat → Int64} {p : Nat → Nat} {Q : Option Value → am_M → Prop} {s : Sta}
theorem oF_82 {I1 : Nat → Nat → Int32} (h : oF I I1) {i : Nat} {v : Int32} : oF I (ui I1 82 i v) := fun a ha => by
  rw [← h a ha]
  funext y
  simp only [ui]
  rw [if_neg (by omega)]
theorem Mod_82 {rn : Bool} (hm : Mod rn I s) {i : Nat} {v : Int32} (hi : i ≠ 4 ∧ i ≠ 5 ∧ i ≠ 7) : Mod rn (ui I 82 i v) s :=
  Mod_row hm (rowM_ne hm.1 (by decide) _ _) (by funext y; simp [ui]) (by funext y; simp [ui]) (fun j hj => by
    simp only [ui]
    rw [if_neg (by omega)])
theorem Mod_rn {rn b : Bool} (hm : Mod rn I s) : Mod b (ui I 82 5 (bI b)) s := by
  obtain ⟨z1, z2, z3, z4, z5, z6⟩ := hm
  refine ⟨rowM_ne z1 (by decide) _ _, by simp [ui, z2], fun k hk i hi => ?_, by simp [ui], by simp [ui, z5], fun i hi => ?_⟩
  · simp only [ui]
    rw [if_neg (by omega)]
    exact z3 k hk i hi
  · simp only [ui]
    rw [if_neg (by omega)]
    exact z6 i hi
theorem en_plays {D : Nat → Int32} {r st : Nat} (hr : r ≤ 3) (hm : Mod true I (D, s.2)) (h18 : I 82 18 = nI r) (k : ∀ I', Mod false I' (D, s.2) → I' 82 18 = nI r → I' 82 19 = I 82 19 → oF I I' → Q (some (.int (if r = 0 then -1000004 else nI st))) (I', J, KR p)) : E me_X8_plays d L 66 [some (.ref 82), some (.int (nI st))] [] I J p Q := by
  have kk := k (ui I 82 5 0) (Mod_rn (b := false) hm) (by simp [ui, h18]) (by simp [ui]) (oF_82 (fun _ _ => rfl))
  refine ev_aload_n (pc := 66) dX8_plays_66 rfl (ev_iconst (pc := 67) (v := (0)) dX8_plays_67 iconst_c0 (ev_puti (pc := 68) kF_8_56 dX8_plays_68 rfl rfl rfl rfl rfl (ev_aload_n (pc := 71) dX8_plays_71 rfl (ev_geti (pc := 72) kF_8_187 dX8_plays_72 rfl rfl (?_)))))
  rw [show ui I 82 5 0 82 18 = nI r by simp [ui, h18]]
  by_cases q : r = 0
  · rw [if_pos q] at kk
    subst q
    refine ev_if_ne (pc := 75) 83 dX8_plays_75 (by decide) (kt := fun c => absurd (rfl) c) (kf := fun c75 => ev_ldc (pc := 78) kC_8_71 dX8_plays_78 (ev_goto (pc := 80) 84 dX8_plays_80 (by decide) (ev_iret (pc := 84) dX8_plays_84 rfl ?_)))
    exact kk
  · rw [if_neg q] at kk
    refine ev_if_ne (pc := 75) 83 dX8_plays_75 (by decide) (kf := fun c => absurd c (nI_ne0 (by omega) (by omega))) (kt := fun c75 => ev_iload_n (pc := 83) dX8_plays_83 rfl (ev_iret (pc := 84) dX8_plays_84 rfl ?_))
    exact kk
def plK (s : Sta) (I : Nat → Nat → Int32) (J : Nat → Nat → Int64) (p : Nat → Nat) (Q : Option Value → am_M → Prop) (r : Nat × Nat × Nat × (Nat → Int32)) : Prop :=
  ∀ I', Mod false I' (r.2.2.2, s.2) → oF I I' → I' 82 18 = nI r.1 → (r.1 = 0 → I' 82 19 = nI r.2.2.1) → Q (some (.int (if r.1 = 0 then -1000004 else nI r.2.1))) (I', J, KR p)
theorem lp_plays (hd : 10 ≤ d) (hw : Wst s) : ∀ (f a st m : Nat) (D : Nat → Int32) (I1 : Nat → Nat → Int32), s.2.2.2.1 ≤ a + f → a ≤ s.2.2.2.1 → Mod true I1 (D, s.2) → wfD D → oF I I1 → I1 82 17 = nI a → I1 82 18 = nI 0 → I1 82 19 = nI m →
    plK s I J p Q (rnO (sgT s.2.2.2.2 s.2.2.2.1) s.2.2.2.1 f a st m D) →
    E me_X8_plays d L 22 [some (.ref 82), some (.int (nI st))] [] I1 J p Q
  | 0, a, st, m, D, I1, haf, han, hm, hwD, hf, h17, h18, h19, k => by
    have hn := hw.2.2.2.1
    simp only [rnO] at k
    refine ev_aload_n (pc := 22) dX8_plays_22 rfl (ev_geti (pc := 23) kF_8_162 dX8_plays_23 rfl rfl (ev_aload_n (pc := 26) dX8_plays_26 rfl (ev_geti (pc := 27) kF_8_159 dX8_plays_27 rfl rfl (ev_ncmp_ge (pc := 30) 66 (a) (s.2.2.2.1) dX8_plays_30 (by decide) (h17) (hm.2.2.2.2.1) (by omega) (by omega) (kf := fun c => absurd c (by omega)) (kt := fun c30 => ?_)))))
    exact en_plays (r := 0) (by omega) hm h18 fun I' g1 g2 g3 g4 => k I' g1 (fun c hc => by rw [g4 c hc, hf c hc]) g2 (fun _ => by rw [g3, h19])
  | f + 1, a, st, m, D, I1, haf, han, hm, hwD, hf, h17, h18, h19, k => by
    have hn := hw.2.2.2.1
    simp only [rnO] at k
    by_cases q : s.2.2.2.1 ≤ a
    · rw [if_pos q] at k
      refine ev_aload_n (pc := 22) dX8_plays_22 rfl (ev_geti (pc := 23) kF_8_162 dX8_plays_23 rfl rfl (ev_aload_n (pc := 26) dX8_plays_26 rfl (ev_geti (pc := 27) kF_8_159 dX8_plays_27 rfl rfl (ev_ncmp_ge (pc := 30) 66 (a) (s.2.2.2.1) dX8_plays_30 (by decide) (h17) (hm.2.2.2.2.1) (by omega) (by omega) (kf := fun c => absurd c (by omega)) (kt := fun c30 => ?_)))))
      exact en_plays (r := 0) (by omega) hm h18 fun I' g1 g2 g3 g4 => k I' g1 (fun c hc => by rw [g4 c hc, hf c hc]) g2 (fun _ => by rw [g3, h19])
    rw [if_neg q] at k
    have hw' : Wst (D, s.2) := ⟨hwD, hw.2⟩
    have bad : ∀ (I2 : Nat → Nat → Int32) (r : Nat), 1 ≤ r → r ≤ 3 → Mod true I2 (D, s.2) → oF I I2 → (∀ I', Mod false I' (D, s.2) → oF I I' → I' 82 18 = nI r → Q (some (.int (nI a))) (I', J, KR p)) → E me_X8_plays d L 50 [some (.ref 82), some (.int (nI a))] [.int (nI r), .ref 82] I2 J p Q := by
      intro I2 r r1 r3 g1 g2 kk
      refine ev_puti (pc := 50) kF_8_187 dX8_plays_50 rfl rfl rfl rfl rfl (ev_aload_n (pc := 53) dX8_plays_53 rfl (ev_dup (pc := 54) dX8_plays_54 rfl (ev_geti (pc := 55) kF_8_190 dX8_plays_55 rfl rfl (ev_iconst (pc := 58) (v := (1)) dX8_plays_58 iconst_c1 (ev_iadd (pc := 59) dX8_plays_59 (ev_puti (pc := 60) kF_8_190 dX8_plays_60 rfl rfl rfl rfl rfl (ev_goto (pc := 63) 22 dX8_plays_63 (by decide) (?_))))))))
      have fin : ∀ v, E me_X8_plays d L 66 [some (.ref 82), some (.int (nI a))] [] (ui (ui I2 82 18 (nI r)) 82 19 v) J p Q := fun v =>
        en_plays (r := r) r3 (Mod_82 (Mod_82 g1 (by omega)) (by omega)) (by simp [ui]) fun I' b1 b2 b3 b4 => by
          rw [if_neg (by omega)]
          exact kk I' b1 (fun c hc => by rw [b4 c hc, oF_82 (oF_82 g2) c hc]) b2
      have e18 : ∀ v, ui (ui I2 82 18 (nI r)) 82 19 v 82 18 = nI r := fun v => by simp [ui]
      refine ev_aload_n (pc := 22) dX8_plays_22 rfl (ev_geti (pc := 23) kF_8_162 dX8_plays_23 rfl rfl (ev_aload_n (pc := 26) dX8_plays_26 rfl (ev_geti (pc := 27) kF_8_159 dX8_plays_27 rfl rfl (ev_icmp_ge (pc := 30) 66 dX8_plays_30 (by decide) (fun c30 => ?_) (fun c30 => ?_)))))
      · exact fin _
      · refine ev_aload_n (pc := 33) dX8_plays_33 rfl (ev_geti (pc := 34) kF_8_187 dX8_plays_34 rfl rfl (?_))
        rw [e18]
        refine ev_if_ne (pc := 37) 66 dX8_plays_37 (by decide) (kf := fun c => absurd c (nI_ne0 (by omega) (by omega))) (kt := fun c37 => ?_)
        exact fin _
    refine ev_aload_n (pc := 22) dX8_plays_22 rfl (ev_geti (pc := 23) kF_8_162 dX8_plays_23 rfl rfl (ev_aload_n (pc := 26) dX8_plays_26 rfl (ev_geti (pc := 27) kF_8_159 dX8_plays_27 rfl rfl (ev_ncmp_ge (pc := 30) 66 (a) (s.2.2.2.1) dX8_plays_30 (by decide) (h17) (hm.2.2.2.2.1) (by omega) (by omega) (kt := fun c => absurd c (by omega)) (kf := fun c30 => ev_aload_n (pc := 33) dX8_plays_33 rfl (ev_geti (pc := 34) kF_8_187 dX8_plays_34 rfl rfl (?_)))))))
    rw [h18]
    refine ev_if_ne (pc := 37) 66 dX8_plays_37 (by decide) (kt := fun c => absurd (rfl) c) (kf := fun c37 => ev_aload_n (pc := 40) dX8_plays_40 rfl (ev_geti (pc := 41) kF_8_162 dX8_plays_41 rfl rfl (?_)))
    rw [h17]
    refine ev_istore_n (pc := 44) dX8_plays_44 rfl (ev_aload_n (pc := 45) dX8_plays_45 rfl (ev_aload_n (pc := 46) dX8_plays_46 rfl (ev_invV (pc := 47) kV_8_193 dX8_plays_47 rfl rfl rfl (by omega) rfl ?_)))
    refine m_does (s := (D, s.2)) (by omega) hm hw' (show a < s.2.2.2.1 by omega) h17 (fun I2 e g1 g2 => ?_) (fun I2 c u v w e hq g1 g2 g3 => ?_)
    · have e : rdO (sgT s.2.2.2.2 s.2.2.2.1) a = none := e
      rw [e] at k
      dsimp only at k
      exact bad I2 1 (by omega) (by omega) g2 (fun c hc => by rw [g1.1 c hc, hf c hc]) (fun I' b1 b2 b3 => k I' b1 b2 b3 (fun h => absurd h (show ¬ (1 : Nat) = 0 by decide)))
    · have hq : rdO (sgT s.2.2.2.2 s.2.2.2.1) a = some (c, u, v, w, e) := hq
      have r := rdO_lt hq
      have f2 : oF I I2 := fun c hc => by rw [g1.1 c hc, hf c hc]
      rw [hq] at k
      dsimp only at k
      rcases asR_do (s := (D, s.2)) hwD (u := u) (v := v) (w := w) r.2.2.2.2.2 with ⟨a1, a2, a3⟩ | ⟨a1, a2, a3, a4⟩ | ⟨a1, a2, a3, a4⟩
      · rw [if_neg (by rw [a1]; decide)] at k
        rw [a3] at g2
        rw [a2]
        exact bad I2 2 (by omega) (by omega) g2 f2 (fun I' b1 b2 b3 => k I' b1 b2 b3 (fun h => absurd h (show ¬ (2 : Nat) = 0 by decide)))
      · have a2 : (doD D c u v w).1 < 0 := a2
        rw [if_pos a1, if_pos a2] at k
        rw [a4] at g2
        rw [a3]
        exact bad I2 3 (by omega) (by omega) g2 f2 (fun I' b1 b2 b3 => k I' b1 b2 b3 (fun h => absurd h (show ¬ (3 : Nat) = 0 by decide)))
      · have a2 : ¬ (doD D c u v w).1 < 0 := a2
        have a4 : (doR (D, s.2) c u v w).2 = ((doD D c u v w).2, s.2) := a4
        rw [if_pos a1, if_neg a2] at k
        rw [a4] at g2
        rw [a3]
        refine ev_puti (pc := 50) kF_8_187 dX8_plays_50 rfl rfl rfl rfl rfl (ev_aload_n (pc := 53) dX8_plays_53 rfl (ev_dup (pc := 54) dX8_plays_54 rfl (ev_geti (pc := 55) kF_8_190 dX8_plays_55 rfl rfl (?_))))
        rw [show ui I2 82 18 (nI 0) 82 19 = nI m by simp [ui]; rw [g1.2 19 (by decide) (by decide) (by decide)]; exact h19]
        refine ev_iconst (pc := 58) (v := (1)) dX8_plays_58 iconst_c1 (ev_iadd (pc := 59) dX8_plays_59 (?_))
        rw [nI_1]
        refine ev_puti (pc := 60) kF_8_190 dX8_plays_60 rfl rfl rfl rfl rfl (ev_goto (pc := 63) 22 dX8_plays_63 (by decide) (?_))
        refine lp_plays hd hw f e a (m + 1) _ _ (by omega) r.2.1 (Mod_82 (Mod_82 g2 (by omega)) (by omega)) (do_wf hwD a1 r.2.2.2.2.2) (oF_82 (oF_82 f2)) ?_ ?_ ?_ k
        · simp [ui, g3]
        · simp [ui]
        · simp [ui]
theorem m_plays {rn : Bool} (hd : 11 ≤ d) (hm : Mod rn I s) (hw : Wst s) (k : ∀ I', Mod false I' ((runD s).2.2.2, s.2) → oF I I' → I' 82 18 = nI (runD s).1 → ((runD s).1 = 0 → I' 82 19 = nI (runD s).2.2.1) → Q (some (.int (if (runD s).1 = 0 then -1000004 else nI (runD s).2.1))) (I', J, KR p)) : T d me_X8_plays [.ref 82] L I J p Q := by
  refine am_enter [some (.ref 82), none] rfl rfl rfl rfl ?_
  refine ev_aload_n (pc := 0) dX8_plays_0 rfl (ev_iconst (pc := 1) (v := (1)) dX8_plays_1 iconst_c1 (ev_puti (pc := 2) kF_8_56 dX8_plays_2 rfl rfl rfl rfl rfl (ev_aload_n (pc := 5) dX8_plays_5 rfl (ev_iconst (pc := 6) (v := (0)) dX8_plays_6 iconst_c0 (ev_puti (pc := 7) kF_8_162 dX8_plays_7 rfl rfl rfl rfl rfl (ev_aload_n (pc := 10) dX8_plays_10 rfl (ev_iconst (pc := 11) (v := (0)) dX8_plays_11 iconst_c0 (ev_puti (pc := 12) kF_8_187 dX8_plays_12 rfl rfl rfl rfl rfl (ev_aload_n (pc := 15) dX8_plays_15 rfl (ev_iconst (pc := 16) (v := (0)) dX8_plays_16 iconst_c0 (ev_puti (pc := 17) kF_8_190 dX8_plays_17 rfl rfl rfl rfl rfl (ev_iconst (pc := 20) (v := (0)) dX8_plays_20 iconst_c0 (ev_istore_n (pc := 21) dX8_plays_21 rfl (?_))))))))))))))
  have m1 : Mod true (ui I 82 5 1) s := Mod_rn (b := true) hm
  have f1 : oF I (ui I 82 5 1) := oF_82 (fun _ _ => rfl)
  refine lp_plays (I := I) (by omega) hw 60 0 0 0 s.1 _ (by have := hw.2.2.2.1; omega) (by omega) (Mod_82 (Mod_82 (Mod_82 m1 (by omega)) (by omega)) (by omega)) hw.1 (oF_82 (oF_82 (oF_82 f1))) ?_ ?_ ?_ k
  · simp [ui]; rfl
  · simp [ui]; rfl
  · simp [ui]; rfl
theorem m_fault (hd : 12 ≤ d) (hm : Mod false I s) (hw : Wst s) (a : Int32) (k : ∀ I', Mod false I' s → mfr I I' → Q (some (.int (oFault s a))) (I', J, KR p)) : T d me_X8_fault [.ref 82, .int a] L I J p Q := by
  refine am_enter [some (.ref 82), some (.int a), none] rfl rfl rfl rfl ?_
  unfold oFault at k
  have hb : (runD s).1 ≤ 3 ∧ (runD s).2.2.1 ≤ 0 + 60 := rn_le _ _ _ _ _
  refine ev_iload_n (pc := 0) dX8_fault_0 rfl (ev_iconst (pc := 1) (v := (0)) dX8_fault_1 iconst_c0 (ev_iconst (pc := 2) (v := (1)) dX8_fault_2 iconst_c1 (ev_invS (pc := 3) kS_8_52 dX8_fault_3 rfl (by omega) rfl ?_)))
  refine m_in 0 1 a ?_
  cases q1 : inR 0 1 a
  · rw [q1, if_neg (by decide)] at k
    refine ev_ifb_ne (pc := 6) 12 dX8_fault_6 (by decide) (kt := fun c => absurd c (by simp)) (kf := fun c6 => ev_ldc (pc := 9) kC_8_79 dX8_fault_9 (ev_iret (pc := 11) dX8_fault_11 rfl ?_))
    exact k _ hm (fun _ _ => rfl)
  rw [q1, if_pos rfl] at k
  refine ev_ifb_ne (pc := 6) 12 dX8_fault_6 (by decide) (kf := fun c => absurd c (by simp)) (kt := fun c6 => ev_aload_n (pc := 12) dX8_fault_12 rfl (ev_getr (pc := 13) kF_8_7 dX8_fault_13 rfl rfl rfl (ev_aload_n (pc := 16) dX8_fault_16 rfl (ev_getr (pc := 17) kF_8_16 dX8_fault_17 rfl rfl rfl (ev_invS (pc := 20) kS_8_135 dX8_fault_20 rfl (by omega) rfl ?_)))))
  refine m_copies_83_85 fun I1 c1 c2 => ?_
  have m1 : Mod false I1 s := Mod_row hm (rowM_of hm.1 (c2 83 (by decide))) (c2 84 (by decide)) (c2 87 (by decide)) (fun i _ => by rw [c2 82 (by decide)])
  refine ev_aload_n (pc := 23) dX8_fault_23 rfl (ev_invV (pc := 24) kV_8_196 dX8_fault_24 rfl rfl rfl (by omega) rfl ?_)
  refine m_plays (by omega) m1 hw fun I2 m2 f2 g18 g19 => ?_
  refine ev_istore_n (pc := 27) dX8_fault_27 rfl (ev_aload_n (pc := 28) dX8_fault_28 rfl (ev_getr (pc := 29) kF_8_16 dX8_fault_29 rfl rfl rfl (ev_aload_n (pc := 32) dX8_fault_32 rfl (ev_getr (pc := 33) kF_8_7 dX8_fault_33 rfl rfl rfl (ev_invS (pc := 36) kS_8_135 dX8_fault_36 rfl (by omega) rfl ?_)))))
  refine m_copies_85_83 fun I3 c3 c4 => ?_
  have r3 : rowM I3 s.1 := fun i hi => by
    rw [c3 i hi, f2 85 (by omega), c1 i hi]
    exact hm.1 i hi
  have m3 : Mod false I3 s := by
    have := Mod_row m2 r3 (c4 84 (by decide)) (c4 87 (by decide)) (fun i _ => by rw [c4 82 (by decide)])
    exact this
  have kk := k I3 m3 (fun c hc => by rw [c4 c (by omega), f2 c (by omega), c2 c (by omega)])
  by_cases q : (runD s).1 = 0
  · rw [if_pos q] at kk ⊢
    refine ev_iload_n (pc := 39) dX8_fault_39 rfl (ev_ldc (pc := 40) kC_8_71 dX8_fault_40 (ev_icmp_eq (pc := 42) 49 dX8_fault_42 (by decide) (kf := fun c => absurd (rfl) c) (kt := fun c42 => ev_iload_n (pc := 49) dX8_fault_49 rfl (ev_goto (pc := 50) 57 dX8_fault_50 (by decide) (ev_iret (pc := 57) dX8_fault_57 rfl ?_)))))
    exact kk
  · rw [if_neg q] at kk ⊢
    have ne : ∀ {m : Nat}, m < 2 ^ 31 → nI m ≠ -1000004 := fun h e => absurd (e ▸ nI_pos h) (by decide)
    by_cases qa : a = 0
    · rw [if_pos qa] at kk
      by_cases e : nI (runD s).2.1 = -1000004
      · refine ev_iload_n (pc := 39) dX8_fault_39 rfl (ev_ldc (pc := 40) kC_8_71 dX8_fault_40 (ev_icmp_eq (pc := 42) 49 dX8_fault_42 (by decide) (kf := fun c => absurd (e) c) (kt := fun c42 => ev_iload_n (pc := 49) dX8_fault_49 rfl (ev_goto (pc := 50) 57 dX8_fault_50 (by decide) (ev_iret (pc := 57) dX8_fault_57 rfl ?_)))))
        exact kk
      · refine ev_iload_n (pc := 39) dX8_fault_39 rfl (ev_ldc (pc := 40) kC_8_71 dX8_fault_40 (ev_icmp_eq (pc := 42) 49 dX8_fault_42 (by decide) (kt := fun c => absurd c (e)) (kf := fun c42 => ev_iload_n (pc := 45) dX8_fault_45 rfl (ev_if_ne (pc := 46) 53 dX8_fault_46 (by decide) (kt := fun c => absurd (qa) c) (kf := fun c46 => ev_iload_n (pc := 49) dX8_fault_49 rfl (ev_goto (pc := 50) 57 dX8_fault_50 (by decide) (ev_iret (pc := 57) dX8_fault_57 rfl ?_)))))))
        exact kk
    · rw [if_neg qa] at kk
      by_cases e : nI (runD s).2.1 = -1000004
      · exact absurd e (ne (by have := rn_pos (f := s.2.2.2.2) (tn := s.2.2.2.1) 60 0 0 0 s.1 (by omega) (by omega); have h60 := hw.2.2.2.1; unfold runD; omega))
      · refine ev_iload_n (pc := 39) dX8_fault_39 rfl (ev_ldc (pc := 40) kC_8_71 dX8_fault_40 (ev_icmp_eq (pc := 42) 49 dX8_fault_42 (by decide) (kt := fun c => absurd c (e)) (kf := fun c42 => ev_iload_n (pc := 45) dX8_fault_45 rfl (ev_if_ne (pc := 46) 53 dX8_fault_46 (by decide) (kf := fun c => absurd c (qa)) (kt := fun c46 => ev_aload_n (pc := 53) dX8_fault_53 rfl (ev_geti (pc := 54) kF_8_187 dX8_fault_54 rfl rfl (?_)))))))
        rw [show I3 82 18 = nI (runD s).1 by rw [c4 82 (by decide)]; exact g18]
        refine ev_iret (pc := 57) dX8_fault_57 rfl ?_
        exact kk
theorem m_play (hd : 12 ≤ d) (hm : Mod false I s) (hw : Wst s) (k : ∀ I', Mod false I' (oPlay s).2 → mfr I I' → Q (some (.int (oPlay s).1)) (I', J, KR p)) : T d me_X8_play [.ref 82] L I J p Q := by
  refine am_enter [some (.ref 82), none] rfl rfl rfl rfl ?_
  unfold oPlay at k
  have hb : (runD s).1 ≤ 3 ∧ (runD s).2.2.1 ≤ 0 + 60 := rn_le _ _ _ _ _
  refine ev_aload_n (pc := 0) dX8_play_0 rfl (ev_getr (pc := 1) kF_8_7 dX8_play_1 rfl rfl rfl (ev_aload_n (pc := 4) dX8_play_4 rfl (ev_getr (pc := 5) kF_8_16 dX8_play_5 rfl rfl rfl (ev_invS (pc := 8) kS_8_135 dX8_play_8 rfl (by omega) rfl ?_))))
  refine m_copies_83_85 fun I1 c1 c2 => ?_
  have m1 : Mod false I1 s := Mod_row hm (rowM_of hm.1 (c2 83 (by decide))) (c2 84 (by decide)) (c2 87 (by decide)) (fun i _ => by rw [c2 82 (by decide)])
  refine ev_aload_n (pc := 11) dX8_play_11 rfl (ev_invV (pc := 12) kV_8_196 dX8_play_12 rfl rfl rfl (by omega) rfl ?_)
  refine m_plays (by omega) m1 hw fun I2 m2 f2 g18 g19 => ?_
  refine ev_istore_n (pc := 15) dX8_play_15 rfl (ev_aload_n (pc := 16) dX8_play_16 rfl (ev_getr (pc := 17) kF_8_16 dX8_play_17 rfl rfl rfl (ev_aload_n (pc := 20) dX8_play_20 rfl (ev_getr (pc := 21) kF_8_7 dX8_play_21 rfl rfl rfl (ev_invS (pc := 24) kS_8_135 dX8_play_24 rfl (by omega) rfl ?_)))))
  refine m_copies_85_83 fun I3 c3 c4 => ?_
  have r3 : rowM I3 s.1 := fun i hi => by
    rw [c3 i hi, f2 85 (by omega), c1 i hi]
    exact hm.1 i hi
  have m3 : Mod false I3 s := by
    have := Mod_row m2 r3 (c4 84 (by decide)) (c4 87 (by decide)) (fun i _ => by rw [c4 82 (by decide)])
    exact this
  have f3 : mfr I I3 := fun c hc => by rw [c4 c (by omega), f2 c (by omega), c2 c (by omega)]
  by_cases q : (runD s).1 = 0
  · rw [if_pos q] at k ⊢
    refine ev_iload_n (pc := 27) dX8_play_27 rfl (ev_ldc (pc := 28) kC_8_71 dX8_play_28 (ev_icmp_eq (pc := 30) 36 dX8_play_30 (by decide) (kf := fun c => absurd (rfl) c) (kt := fun c30 => ev_aload_n (pc := 36) dX8_play_36 rfl (ev_invV (pc := 37) kV_8_86 dX8_play_37 rfl rfl rfl (by omega) rfl ?_))))
    refine m_changes m3 hw.2.1 fun I4 m4 c5 => ?_
    have er : runD (chgS false s s.1) = runD s := by
      unfold chgS pushS runD
      rw [if_neg (by decide)]
      split <;> rfl
    have w4 : Wst (chgS false s s.1) := Wst_push hw hw.1
    refine ev_aload_n (pc := 40) dX8_play_40 rfl (ev_invV (pc := 41) kV_8_196 dX8_play_41 rfl rfl rfl (by omega) rfl ?_)
    refine m_plays (by omega) m4 w4 fun I5 m5 f5 h18 h19 => ?_
    rw [er] at m5 h19 ⊢
    rw [if_pos q]
    rw [← setM_f, setM_p (nI_pos (by omega))] at k
    refine ev_ldc (pc := 44) kC_8_71 dX8_play_44 (ev_icmp_ne (pc := 46) 56 dX8_play_46 (by decide) (kt := fun c => absurd (rfl) c) (kf := fun c46 => ev_aload_n (pc := 49) dX8_play_49 rfl (ev_geti (pc := 50) kF_8_190 dX8_play_50 rfl rfl (?_))))
    rw [h19 q]
    refine ev_goto (pc := 53) 58 dX8_play_53 (by decide) (ev_iret (pc := 58) dX8_play_58 rfl ?_)
    exact k I5 m5 (fun c hc => by rw [f5 c (by omega), c5.1 c (by omega) (by omega), f3 c hc])
  · have ne : ∀ {m : Nat}, m < 2 ^ 31 → nI m ≠ -1000004 := fun h e => absurd (e ▸ nI_pos h) (by decide)
    have hp : (runD s).2.1 < 2 ^ 31 := by
      have h1 := rn_pos (f := s.2.2.2.2) (tn := s.2.2.2.1) 60 0 0 0 s.1 (by omega) (by omega)
      have h60 := hw.2.2.2.1
      unfold runD
      omega
    rw [if_neg q] at k ⊢
    refine ev_iload_n (pc := 27) dX8_play_27 rfl (ev_ldc (pc := 28) kC_8_71 dX8_play_28 (ev_icmp_eq (pc := 30) 36 dX8_play_30 (by decide) (kt := fun c => absurd c (ne hp)) (kf := fun c30 => ev_ldc (pc := 33) kC_8_80 dX8_play_33 (ev_iret (pc := 35) dX8_play_35 rfl ?_))))
    exact k I3 m3 f3
end T66
