/-! CALLS -/
theorem z_uck {α : Type} {c : Bool} {o : Option zSt} {f : zSt → Option α} : zbu (zck c o) f = zck c (zbu o f) := by
  cases c <;> rfl
theorem z_ubv {α : Type} {a : zSt} {g : zSt → Option zSt} {f : zSt → Option α} : zbu (zbv a g) f = zbv a (fun s => zbu (g s) f) := rfl
theorem z_us {α : Type} {s : zSt} {f : zSt → Option α} : zbu (some s) f = f s := rfl
def zgR (x : Int32) : Int32 := (x &&& 128) ||| ((x + 1) &&& 127)
theorem zgR_r (x : Int32) : zr 0 255 (zgR x) := zr_or (lo := 0) (hi := 255) 8 (zr_andr (lo := 0) (hi := 128) (zr_c (lo := 128) (hi := 128) (by decide)) (by decide)) (zr_andr (lo := 0) (hi := 127) (zr_c (lo := 127) (hi := 127) (by decide)) (by decide)) (by decide)
section ZCL
variable {I : zSt → zSt → Prop} {σ μ : zSt}
theorem p_grR : zpc (fX5_growR σ ) (fun r => r = zsi σ 36 22 (zgR (σ.1 36 22))) := by
  unfold fX5_growR
  exact zpc_ck (zpc_ck (zpc_ck (zpc_bv (fun s es => zpc_some es))))
theorem p_grM : zpc (fX12_grows μ ) (fun r => r = zsi μ 3 22 (zgR (μ.1 3 22))) := by
  unfold fX12_grows
  exact zpc_ck (zpc_ck (zpc_ck (zpc_bv (fun s es => zpc_some es))))
theorem t_halt (hI : zIoK I) (h : zTT I σ μ) (hF : zF σ μ) (hW : zWzz σ μ) : zp2 (fX5_growR σ ) (fX12_grows μ ) (fun r r' => zTT I r r' ∧ zF r r' ∧ zWzz r r') := by
  intro r r' er er'
  rw [p_grR r er, p_grM r' er', show μ.1 3 22 = σ.1 36 22 from h.eq (by decide)]
  exact ⟨h.upd hI [22] (zQ.wi zQ.rf rfl) (zQ.wi zQ.rf rfl) rfl (zAl1 ⟨rfl, zrg_b (Or.inr (Or.inr rfl)) (zgR_r _)⟩), hF, hW⟩
theorem p_ans : zpc (fX12_answers μ ) (fun r => r = zsi (zsi μ 3 22 (zgR (μ.1 3 22))) 3 26 0) := by
  unfold fX12_answers
  exact zpc_bu p_grM (fun s e => zpc_ck (zpc_bv (fun s2 e2 => zpc_some (by rw [e2, e]; rfl))))
/-- both break off and call; m2: the reference behind its answer -/
theorem t_brk (hI : zIoK I) (h : zTT I σ μ) (hF : zF σ μ) {x : Int32} (hx : zr 0 65535 x) {m2 : zSt} (e : m2 = zsi (zsi μ 3 22 (zgR (μ.1 3 22))) 3 26 0) {α β : Type} {Q : α → β → Prop} {f : zSt → Option α} {g : zSt → Option β} (k : ∀ s t, zTT I s t → zF s t → zWzz s t → t.1 3 25 = μ.1 3 25 → zp2 (f s) (g t) Q) : zp2 (zbu (fX5_breakOff σ x) f) (zbu (fX12_call m2 x) g) Q := by
  unfold fX5_breakOff
  rw [z_ua]
  refine zp2_bul p_grR (fun s1 e1 => ?_)
  rw [z_uck]
  refine zp2_ckl ?_
  rw [z_ubv]
  refine zp2_bvl (fun s2 e2 => ?_)
  rw [z_uck]
  refine zp2_ckl ?_
  simp only [z_ua, z_us]
  have e22 : μ.1 3 22 = σ.1 36 22 := h.eq (by decide)
  rw [e22] at e
  have h2 : zTT I s2 m2 := by
    rw [e, e2, e1]
    exact h.upd hI [22, 26] (zQ.wi (zQ.wi zQ.rf rfl) rfl) (zQ.wi (zQ.wi zQ.rf rfl) rfl) rfl (zAl2 ⟨rfl, zrg_b (Or.inr (Or.inr rfl)) (zgR_r _)⟩ ⟨rfl, zrg_1 (by decide) (by decide) (show zr 0 1 (0 : Int32) from zr_c (by decide))⟩)
  have F2 : zF s2 m2 := by rw [e, e2, e1]; exact hF
  refine t_callk hI h2 F2 hx (fun s t q1 q2 q3 _ qm => k s t q1 q2 q3 ?_)
  rw [qm.1 3 25 rfl, e]
  rfl
end ZCL
