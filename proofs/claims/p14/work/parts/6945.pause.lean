/-! pause: the kind alone -/
def zHd (H G : Nat → Int) : Prop := (H 2 = 0 ∧ ¬ G 1 = 2) ∨ (¬ H 2 = 0 ∧ G 1 = 2)
theorem zHd_fresh (x : Int32) : zHd (zH0 x) (zG0 (zKd x)) := by
  have g : zG0 (zKd x) 1 = (zKd x).toInt := by
    unfold zG0
    rw [zset_ne (by decide), zset_ne (by decide), zset_eq]
  unfold zHd
  rw [g]
  by_cases h2 : x = 2
  · subst h2
    exact Or.inr ⟨by decide, by decide⟩
  · refine Or.inl ⟨?_, ?_⟩
    · show (if (2 : Nat) = 2 then (if x = 2 then (1 : Int) else 0) else 0) = 0
      rw [if_pos rfl, if_neg h2]
    · unfold zKd
      by_cases h1 : x = 1
      · rw [if_pos h1, h1]; decide
      · rw [if_neg h1, if_neg h2]; decide
theorem q_pauseC {H : Nat → Int} {σ : zSt} (hσ : zIC H σ) : zok (fX11_pause σ ) (fun r => zIC H r.1 ∧ ((H 2 = 0 ∧ r.2 = 1) ∨ (¬ H 2 = 0 ∧ r.2 = 0))) := by
  have e : ∀ σ1, zIC H σ1 → (zgi σ1 0 0).toInt = H 2 := fun σ1 h => h.2.1 2 (0, 0) rfl
  have z14 : ∀ σ1, zIC H σ1 → zok (fX11_pause_14 σ1 ) (fun r => zIC H r.1 ∧ ((H 2 = 0 ∧ r.2 = 1) ∨ (¬ H 2 = 0 ∧ r.2 = 0))) := fun σ1 h => by
    unfold fX11_pause_14 fX11_pause_26
    refine zok_if (fun q => ?_) (fun q => ?_)
    · exact zok_ck rfl (zok_some ⟨h, Or.inl ⟨by rw [← e σ1 h, q]; rfl, rfl⟩⟩)
    · exact zok_ck rfl (zok_some ⟨h, Or.inr ⟨fun r => q (Int32.toInt_inj.mp (by rw [e σ1 h, r]; rfl)), rfl⟩⟩)
  unfold fX11_pause
  exact zok_if (fun _ => zok_bu (s_X5_askForPause hσ) (fun σ1 i => z14 σ1 i)) (fun _ => z14 σ hσ)
theorem q_pauseM {G : Nat → Int} {μ : zSt} (hμ : zIM G μ) : zok (fX12_pause μ ) (fun r => zIM G r.1 ∧ ((¬ G 1 = 2 ∧ r.2 = 1) ∨ (G 1 = 2 ∧ r.2 = 0))) := by
  unfold fX12_pause
  refine zok_bs (I := zIM G) (hμ.wi 0 0 (by decide) zr_any (by decide +kernel)) (fun σ1 e1 i1 => ?_)
  have e : (zgi σ1 0 3).toInt = G 1 := i1.at 1 (by decide)
  refine zok_if (fun q => zok_ck rfl (zok_some ⟨i1, Or.inr ⟨by rw [← e, q]; rfl, rfl⟩⟩)) (fun q => zok_ck rfl ?_)
  refine zok_bs (I := zIM G) (i1.wi 28 28 (by decide) (zr_c (lo := 1) (hi := 1) (by decide)) (by decide +kernel)) (fun σ2 e2 i2 => ?_)
  exact zok_ck rfl (zok_some ⟨i2, Or.inl ⟨fun r => q (Int32.toInt_inj.mp (by rw [e, r]; rfl)), rfl⟩⟩)
