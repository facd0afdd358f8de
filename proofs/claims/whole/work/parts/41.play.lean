/-! ===== the orders of a text, run by the class; fault and play ===== -/
def doD (D : Nat → Int32) (c : Int32) (u v w : Nat) : Int32 × (Nat → Int32) := if c = 119 then wrS D u (nI v) w 0 else if c = 100 then dlS D u else if c = 99 then clS D u (-1) else wpS D u
/-- the reason (0: none), where the last order begins, how many were read, the disk -/
def rnO (g : Nat → Int32) (tn : Nat) : Nat → Nat → Nat → Nat → (Nat → Int32) → Nat × Nat × Nat × (Nat → Int32)
  | 0, _, st, m, D => (0, st, m, D)
  | f + 1, a, st, m, D => if tn ≤ a then (0, st, m, D) else match rdO g a with
    | none => (1, a, m, D)
    | some (c, u, v, w, e) => if fitO c u v w then (if (doD D c u v w).1 < 0 then (3, a, m + 1, D) else rnO g tn f e a (m + 1) (doD D c u v w).2) else (2, a, m + 1, D)
def runD (s : Sta) : Nat × Nat × Nat × (Nat → Int32) := rnO (sgT s.2.2.2.2 s.2.2.2.1) s.2.2.2.1 60 0 0 0 s.1
def oFault (s : Sta) (a : Int32) : Int32 := if inR 0 1 a then (if (runD s).1 = 0 then -1000004 else if a = 0 then nI (runD s).2.1 else nI (runD s).1) else -1000001
def oPlay (s : Sta) : Int32 × Sta := if (runD s).1 = 0 then setS s (nI (runD s).2.2.1, (runD s).2.2.2) else (-1000002, s)
theorem rdS_lt {g : Nat → Int32} {c : Int32} {a v b : Nat} (h : rdS g c a = some (v, b)) : v < 100 ∧ a < b ∧ g (b - 1) = c := by
  unfold rdS at h
  split at h
  · cases h
  · rename_i v' b' hq
    obtain ⟨r1, r2, r3⟩ := rdN_lt hq
    split at h
    · rename_i e
      cases h
      exact ⟨r1, by omega, by simpa using e⟩
    · cases h
theorem rdO_lt {f : Nat → Int32} {n a : Nat} {c : Int32} {u v w e : Nat} (h : rdO (sgT f n) a = some (c, u, v, w, e)) : a < e ∧ e ≤ n ∧ u < 100 ∧ v < 100 ∧ w < 100 ∧ (c = 119 ∨ c = 100 ∨ c = 99 ∨ c = 122) := by
  have en : ∀ b, 0 < b → sgT f n (b - 1) = 59 → b ≤ n := fun b h0 hb => by
    unfold sgT at hb
    split at hb
    · omega
    · exact absurd hb (by decide)
  unfold rdO at h
  split at h
  · split at h
    · cases h
    · rename_i u1 b1 h1
      split at h
      · cases h
      · rename_i v1 b2 h2
        split at h
        · cases h
        · rename_i w1 b3 h3
          cases h
          have r1 := rdS_lt h1
          have r2 := rdS_lt h2
          have r3 := rdS_lt h3
          have := en _ (by omega) r3.2.2
          exact ⟨by omega, this, r1.1, r2.1, r3.1, Or.inl rfl⟩
  · split at h
    · rename_i hg
      split at h
      · cases h
      · rename_i u1 b1 h1
        cases h
        have r1 := rdS_lt h1
        have := en _ (by omega) r1.2.2
        exact ⟨by omega, this, r1.1, by omega, by omega, Or.inr hg⟩
    · cases h
theorem do_err {D : Nat → Int32} (hw : wfD D) {c : Int32} {u v w : Nat} (hf : fitO c u v w = true) (hc : c = 119 ∨ c = 100 ∨ c = 99 ∨ c = 122) (e : (doD D c u v w).1 < 0) : (doD D c u v w).2 = D := by
  unfold doD fitO at *
  rcases hc with rfl | rfl | rfl | rfl
  · rw [if_pos rfl] at hf e ⊢
    simp only [Bool.and_eq_true, decide_eq_true_eq] at hf
    exact wr_err (by omega) (by omega) e
  · rw [if_neg (by decide), if_pos rfl] at e ⊢
    exact dl_err e
  · rw [if_neg (by decide), if_neg (by decide), if_pos rfl] at e ⊢
    exact cl_err hw e
  · rw [if_neg (by decide), if_neg (by decide), if_pos rfl] at hf
    rw [if_neg (by decide), if_neg (by decide), if_neg (by decide)] at e ⊢
    exact wp_err hw (by simpa using hf) e
theorem do_wf {D : Nat → Int32} (hw : wfD D) {c : Int32} {u v w : Nat} (hf : fitO c u v w = true) (hc : c = 119 ∨ c = 100 ∨ c = 99 ∨ c = 122) : wfD (doD D c u v w).2 := by
  unfold doD fitO at *
  rcases hc with rfl | rfl | rfl | rfl
  · rw [if_pos rfl] at hf ⊢
    simp only [Bool.and_eq_true, decide_eq_true_eq] at hf
    exact wr_wf hw (by omega) (by omega) (by omega) (by omega)
  · rw [if_neg (by decide), if_pos rfl] at hf ⊢
    exact dl_wf hw (by simpa using hf)
  · rw [if_neg (by decide), if_neg (by decide), if_pos rfl]
    exact cl_wf hw (Or.inl rfl)
  · rw [if_neg (by decide), if_neg (by decide), if_pos rfl] at hf
    rw [if_neg (by decide), if_neg (by decide), if_neg (by decide)]
    exact wpS_wf hw (by simpa using hf)
theorem rn_wf {f : Nat → Int32} {tn : Nat} : ∀ n a st m D, wfD D → wfD (rnO (sgT f tn) tn n a st m D).2.2.2
  | 0, a, st, m, D, hw => hw
  | n + 1, a, st, m, D, hw => by
    simp only [rnO]
    split
    · exact hw
    · split
      · exact hw
      · rename_i c u v w e hq
        have r := rdO_lt hq
        split
        · rename_i hf
          split
          · exact hw
          · exact rn_wf n _ _ _ _ (do_wf hw hf r.2.2.2.2.2)
        · exact hw
section T41
variable {d L : Nat} {I : Nat → Nat → Int32} {J : Nat → Nat → Int64} {p : Nat → Nat} {Q : Option Value → am_M → Prop} {s : Sta}
theorem t_doOrder (hd : 7 ≤ d) {D : Nat → Int32} {c : Int32} {u v w : Nat} (h : Rep I 2 D) (hw : wfD D) (hf : fitO c u v w = true) (hc : c = 119 ∨ c = 100 ∨ c = 99 ∨ c = 122) (hu : u < 100) (h5 : I 78 5 = c) (h6 : I 78 6 = nI u) (h78 : c = 119 → I 78 7 = nI v ∧ I 78 8 = nI w)
    (k : ∀ I' J', Rep I' 2 (doD D c u v w).2 → ofr I I' → Q (some (.int (doD D c u v w).1)) (I', J', KR p)) : T d me_X7_doOrder [.ref 1] L I J p Q := by
  refine am_enter [some (.ref 1)] rfl rfl rfl rfl ?_
  unfold doD at k
  unfold fitO at hf
  refine ev_aload_n (pc := 0) dX7_doOrder_0 rfl (ev_getr (pc := 1) kF_7_33 dX7_doOrder_1 rfl rfl rfl (ev_geti (pc := 4) kF_7_287 dX7_doOrder_4 rfl rfl (?_)))
  rw [h5]
  rcases hc with rfl | rfl | rfl | rfl
  · obtain ⟨g7, g8⟩ := h78 rfl
    rw [if_pos rfl] at hf k
    simp only [Bool.and_eq_true, decide_eq_true_eq] at hf
    refine ev_lookup (pc := 7) (off := 33) 40 dX7_doOrder_7 (by decide) (by decide) (by decide) ?_
    refine ev_aload_n (pc := 40) dX7_doOrder_40 rfl (ev_aload_n (pc := 41) dX7_doOrder_41 rfl (ev_getr (pc := 42) kF_7_33 dX7_doOrder_42 rfl rfl rfl (ev_geti (pc := 45) kF_7_290 dX7_doOrder_45 rfl rfl (ev_aload_n (pc := 48) dX7_doOrder_48 rfl (ev_getr (pc := 49) kF_7_33 dX7_doOrder_49 rfl rfl rfl (ev_geti (pc := 52) kF_7_293 dX7_doOrder_52 rfl rfl (ev_aload_n (pc := 55) dX7_doOrder_55 rfl (ev_getr (pc := 56) kF_7_33 dX7_doOrder_56 rfl rfl rfl (ev_geti (pc := 59) kF_7_294 dX7_doOrder_59 rfl rfl (?_))))))))))
    rw [h6, g7, g8]
    refine ev_iconst (pc := 62) (v := (0)) dX7_doOrder_62 iconst_c0 (ev_invV (pc := 63) kV_7_63 dX7_doOrder_63 rfl rfl rfl (by omega) rfl ?_)
    refine t_writeFile (lay := 0) (by omega) h hw (by omega) (by omega) (by omega) (by omega) fun I' r1 r2 => ?_
    refine ev_iret (pc := 66) dX7_doOrder_66 rfl ?_
    exact k I' J r1 r2
  · rw [if_neg (by decide), if_pos rfl] at hf k
    refine ev_lookup (pc := 7) (off := 60) 67 dX7_doOrder_7 (by decide) (by decide) (by decide) ?_
    refine ev_aload_n (pc := 67) dX7_doOrder_67 rfl (ev_aload_n (pc := 68) dX7_doOrder_68 rfl (ev_getr (pc := 69) kF_7_33 dX7_doOrder_69 rfl rfl rfl (ev_geti (pc := 72) kF_7_290 dX7_doOrder_72 rfl rfl (?_))))
    rw [h6]
    refine ev_invV (pc := 75) kV_7_71 dX7_doOrder_75 rfl rfl rfl (by omega) rfl ?_
    refine t_deleteFile (by omega) h hw (by simpa using hf) fun I' r1 r2 => ?_
    refine ev_iret (pc := 78) dX7_doOrder_78 rfl ?_
    exact k I' J r1 r2
  · rw [if_neg (by decide), if_neg (by decide), if_pos rfl] at k
    refine ev_lookup (pc := 7) (off := 72) 79 dX7_doOrder_7 (by decide) (by decide) (by decide) ?_
    refine ev_aload_n (pc := 79) dX7_doOrder_79 rfl (ev_aload_n (pc := 80) dX7_doOrder_80 rfl (ev_getr (pc := 81) kF_7_33 dX7_doOrder_81 rfl rfl rfl (ev_geti (pc := 84) kF_7_290 dX7_doOrder_84 rfl rfl (?_))))
    rw [h6]
    refine ev_iconst (pc := 87) (v := (-1)) dX7_doOrder_87 iconst_cm1 (ev_invV (pc := 88) kV_7_190 dX7_doOrder_88 rfl rfl rfl (by omega) rfl ?_)
    refine t_claimGuess (by omega) h hw (by omega) (Or.inl rfl) fun I' J' r1 r2 => ?_
    refine ev_iret (pc := 91) dX7_doOrder_91 rfl ?_
    exact k I' J' r1 r2
  · rw [if_neg (by decide), if_neg (by decide), if_pos rfl] at hf
    rw [if_neg (by decide), if_neg (by decide), if_neg (by decide)] at k
    refine ev_lookup (pc := 7) (off := 85) 92 dX7_doOrder_7 (by decide) (by decide) (by decide) ?_
    refine ev_aload_n (pc := 92) dX7_doOrder_92 rfl (ev_aload_n (pc := 93) dX7_doOrder_93 rfl (ev_getr (pc := 94) kF_7_33 dX7_doOrder_94 rfl rfl rfl (ev_geti (pc := 97) kF_7_290 dX7_doOrder_97 rfl rfl (?_))))
    rw [h6]
    refine ev_invV (pc := 100) kV_7_77 dX7_doOrder_100 rfl rfl rfl (by omega) rfl ?_
    refine t_wipePage (by omega) h (by simpa using hf) fun I' r1 r2 => ?_
    refine ev_iret (pc := 103) dX7_doOrder_103 rfl ?_
    exact k I' J r1 r2
end T41
