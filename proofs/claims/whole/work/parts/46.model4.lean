/-! ===== the reference: changes, whole ===== -/
def chgS (rn : Bool) (s : Sta) (D' : Nat → Int32) : Sta := if rn then (D', s.2) else pushS s D'
def setM (rn : Bool) (s : Sta) (r : Int32 × (Nat → Int32)) : Int32 × Sta := if r.1 < 0 then (r.1, s) else (r.1, chgS rn s r.2)
def chF (I I' : Nat → Nat → Int32) : Prop := (∀ c, c ≠ 82 → c ≠ 84 → I' c = I c) ∧ ∀ i, i ≠ 4 → I' 82 i = I 82 i
section T46
variable {d L : Nat} {I : Nat → Nat → Int32} {J : Nat → Nat → Int64} {p : Nat → Nat} {Q : Option Value → am_M → Prop} {s : Sta} {rn : Bool}
theorem m_changes (hm : Mod rn I s) (hn : s.2.1 ≤ 4) (k : ∀ I', Mod rn I' (chgS rn s s.1) → chF I I' → Q none (I', J, KR p)) : T d me_X8_changes [.ref 82] L I J p Q := by
  refine am_enter [some (.ref 82), none] rfl rfl rfl rfl ?_
  obtain ⟨z1, z2, z3, z4, z5, z6⟩ := hm
  refine ev_aload_n (pc := 0) dX8_changes_0 rfl (ev_geti (pc := 1) kF_8_56 dX8_changes_1 rfl rfl (?_))
  rw [z4]
  cases rn
  · refine ev_ifb_eq (pc := 4) 8 dX8_changes_4 (by decide) (kf := fun c => absurd c (by simp)) (kt := fun c4 => ev_aload_n (pc := 8) dX8_changes_8 rfl (ev_geti (pc := 9) kF_8_60 dX8_changes_9 rfl rfl (?_)))
    rw [z2]
    have step : ∀ (m : Nat) (I1 : Nat → Nat → Int32), m < 4 → I1 82 4 = nI m → (∀ c, c ≠ 82 → c ≠ 84 → I1 c = I c) → (∀ i, i ≠ 4 → I1 82 i = I 82 i) → (∀ I', (∀ k, I' 84 k = if 252 * m ≤ k ∧ k < 252 * m + 252 then I 83 (k - 252 * m) else I1 84 k) → I' 82 4 = nI (m + 1) → chF I I' → Q none (I', J, KR p)) → ∀ o : Option Value, E me_X8_changes d L 57 [some (.ref 82), o] [] I1 J p Q := by
      intro m I1 hm4 h4 f1 f2 kk o
      refine ev_iconst (pc := 57) (v := (0)) dX8_changes_57 iconst_c0 (ev_istore_n (pc := 58) dX8_changes_58 rfl (?_))
      refine lp_push I1 hm4 h4 (fun I2 g1 g2 => ?_) 252 0 I1 rfl (fun k => by rw [if_neg (by omega)]) (fun _ _ => rfl)
      refine ev_aload_n (pc := 93) dX8_changes_93 rfl (ev_dup (pc := 94) dX8_changes_94 rfl (ev_geti (pc := 95) kF_8_60 dX8_changes_95 rfl rfl (ev_iconst (pc := 98) (v := (1)) dX8_changes_98 iconst_c1 (ev_iadd (pc := 99) dX8_changes_99 (?_)))))
      rw [g2 82 (by decide), h4, nI_1]
      refine ev_puti (pc := 100) kF_8_60 dX8_changes_100 rfl rfl rfl rfl rfl (ev_vret (pc := 103) dX8_changes_103 rfl ?_)
      refine kk _ (fun k => ?_) (by simp [ui]) ⟨fun c c1 c2 => ?_, fun i hi => ?_⟩
      · rw [show ui I2 82 4 (nI (m + 1)) 84 k = I2 84 k by simp [ui], g1 k, f1 83 (by decide) (by decide)]
      · rw [← f1 c c1 c2, ← g2 c c2]
        funext y
        simp only [ui]
        rw [if_neg (fun q => c1 q.1)]
      · rw [show ui I2 82 4 (nI (m + 1)) 82 i = I2 82 i by simp [ui, hi], g2 82 (by decide), f2 i hi]
    unfold chgS pushS at k
    by_cases h4 : s.2.1 < 4
    · rw [if_neg (by decide), if_pos h4] at k
      refine ev_iconst (pc := 12) (v := (4)) dX8_changes_12 iconst_c4 (ev_icmp_ne (pc := 13) 57 dX8_changes_13 (by decide) (kf := fun c => absurd c (fun q => by have := (nI_eq (b := 4) (by omega) (by omega)).mp q; omega)) (kt := fun c13 => ?_))
      refine step s.2.1 I h4 z2 (fun _ _ _ => rfl) (fun _ _ => rfl) (fun I' g1 g2 g3 => k I' ⟨fun i hi => by rw [g3.1 83 (by decide) (by decide)]; exact z1 i hi, g2, fun j hj i hi => ?_, by rw [g3.2 5 (by decide)]; exact z4, by rw [g3.2 7 (by decide)]; exact z5, fun i hi => by rw [g3.1 87 (by decide) (by decide)]; exact z6 i hi⟩ g3) none
      dsimp only at hj ⊢
      rw [g1]
      by_cases e : j = s.2.1
      · rw [if_pos (by rw [e]; omega), if_pos e, e, show 252 * s.2.1 + i - 252 * s.2.1 = i by omega]
        exact z1 i hi
      · rw [if_neg (by omega), if_neg e]
        exact z3 j (by omega) i hi
    · rw [if_neg (by decide), if_neg h4] at k
      have e4 : s.2.1 = 4 := by omega
      rw [e4]
      refine ev_iconst (pc := 12) (v := (4)) dX8_changes_12 iconst_c4 (ev_icmp_ne (pc := 13) 57 dX8_changes_13 (by decide) (kt := fun c => absurd (rfl) c) (kf := fun c13 => ev_iconst (pc := 16) (v := (0)) dX8_changes_16 iconst_c0 (ev_istore_n (pc := 17) dX8_changes_17 rfl (?_))))
      refine lp_shift I (fun I1 g1 g2 => ?_) 756 0 I rfl (fun k => by rw [if_neg (by omega)]) (fun _ _ => rfl)
      refine ev_aload_n (pc := 47) dX8_changes_47 rfl (ev_dup (pc := 48) dX8_changes_48 rfl (ev_geti (pc := 49) kF_8_60 dX8_changes_49 rfl rfl (ev_iconst (pc := 52) (v := (1)) dX8_changes_52 iconst_c1 (ev_isub (pc := 53) dX8_changes_53 (?_)))))
      rw [g2 82 (by decide), z2, e4, show nI 4 - 1 = nI 3 from nI_pred 3]
      refine ev_puti (pc := 54) kF_8_60 dX8_changes_54 rfl rfl rfl rfl rfl (?_)
      refine step 3 _ (by omega) (by simp [ui]) (fun c c1 c2 => ?_) (fun i hi => ?_) (fun I' h1 h2 h3 => k I' ⟨fun i hi => by rw [h3.1 83 (by decide) (by decide)]; exact z1 i hi, h2, fun j hj i hi => ?_, by rw [h3.2 5 (by decide)]; exact z4, by rw [h3.2 7 (by decide)]; exact z5, fun i hi => by rw [h3.1 87 (by decide) (by decide)]; exact z6 i hi⟩ h3) _
      · rw [← g2 c c2]
        funext y
        simp only [ui]
        rw [if_neg (fun q => c1 q.1)]
      · rw [← g2 82 (by decide)]
        simp [ui, hi]
      · dsimp only at hj ⊢
        rw [h1]
        by_cases e : j < 3
        · rw [if_neg (by omega), if_pos e, show ui I1 82 4 (nI 3) 84 (252 * j + i) = I1 84 (252 * j + i) by simp [ui], g1, if_pos (by omega), show 252 * j + i + 252 = 252 * (j + 1) + i by omega]
          exact z3 (j + 1) (by omega) i hi
        · rw [if_pos (by omega), if_neg e, show 252 * j + i - 252 * 3 = i by omega]
          exact z1 i hi
  · unfold chgS at k
    rw [if_pos rfl] at k
    refine ev_ifb_eq (pc := 4) 8 dX8_changes_4 (by decide) (kt := fun c => absurd c (by simp)) (kf := fun c4 => ev_vret (pc := 7) dX8_changes_7 rfl ?_)
    exact k I ⟨z1, z2, z3, z4, z5, z6⟩ ⟨fun _ _ _ => rfl, fun _ _ => rfl⟩
end T46
