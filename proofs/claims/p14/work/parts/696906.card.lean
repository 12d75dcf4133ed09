/-! load, both sides -/
def zBk (z : Int32) : Int32 := (z + 16383) / 16384
theorem z_bank {z : Int32} (h : zr 8192 262144 z) : z.toInt ≤ (16384 * zBk z).toInt ∧ ((z + 16384) - 1) / 16384 = zBk z := by
  have c3 : (16383 : Int32).toInt = 16383 := rfl
  have c4 : (16384 : Int32).toInt = 16384 := rfl
  have c1 : (1 : Int32).toInt = 1 := rfl
  have r3 : zr 16383 16383 (16383 : Int32) := zr_c (by decide)
  have r4 : zr 16384 16384 (16384 : Int32) := zr_c (by decide)
  have r1 : zr 1 1 (1 : Int32) := zr_c (by decide)
  have t1 := z_tadd h r3 (by decide)
  have q1 := zr_add (lo := 24575) (hi := 278527) h r3 (by decide)
  have d1 := z_tdiv (y := (16384 : Int32)) 16384 rfl q1 (by decide)
  have qd : zr 1 16 (zBk z) := zr_div (lo := 1) (hi := 16) 16384 (by decide) q1 (by decide)
  have m1 := z_tmul r4 qd (by decide)
  have t2 := z_tadd h r4 (by decide)
  have q2 := zr_add (lo := 24576) (hi := 278528) h r4 (by decide)
  have t3 := z_tsub q2 r1 (by decide)
  have e : (z + 16384) - 1 = z + 16383 := Int32.toInt_inj.mp (by rw [t3, t2, t1, c3, c4, c1]; omega)
  refine ⟨?_, by rw [e]; rfl⟩
  have d2 : (zBk z).toInt = (z + 16383).toInt / 16384 := d1
  rw [m1, d2, t1, c4, c3]
  omega
/-- the class's take of the tape -/
def zTake (σ : zSt) (s0 : Int32) (r : zSt × Int32) : Prop := (¬ r.2 = 0 ∧ (∀ j, ¬ j = 2 → r.1.1 1 j = σ.1 1 j) ∧ ∀ w, r.1.1 (ztp w) = σ.1 (ztp w)) ∨ (r.2 = 0 ∧ (r.1.1 1 0 = σ.1 1 1 ∧ r.1.1 1 1 = σ.1 1 0 ∧ r.1.1 1 3 = s0 ∧ r.1.1 1 4 = zgi σ 1 2 - s0 ∧ r.1.1 1 5 = zBk (zgi σ 1 2 - s0)) ∧ (∀ w, r.1.1 (ztp w) = σ.1 (ztp w)) ∧ zIsH (zgi σ 1 2 - s0) (fun j => σ.1 (ztp (σ.1 1 0)) (s0.toNatClampNeg + j)) (r.1.1 1 7) ∧ zIsP (zgi σ 1 2 - s0) (fun j => σ.1 (ztp (σ.1 1 0)) (s0.toNatClampNeg + j)) (r.1.1 1 7) (r.1.1 1 6) ∧ zr 8192 262144 (zgi σ 1 2 - s0))
theorem p_take21 {σ : zSt} {s0 : Int32} (hr : zr 0 262656 (zgi σ 1 2)) (h0 : zr 0 512 s0) : zpc (fX2_takeTape_21 σ s0) (zTake σ s0) := by
  unfold fX2_takeTape_21
  refine zpc_bv (fun v1 e1 => zpc_bv (fun σ2 e2 => ?_))
  have c8 : (8192 : Int32).toInt = 8192 := rfl
  have rv : zr (-512) 262656 v1 := by rw [e1]; exact zr_sub (lo := -512) (hi := 262656) hr h0 (by decide)
  have k2 : ∀ j, ¬ j = 2 → σ2.1 1 j = σ.1 1 j := fun j hj => by rw [e2]; exact zsi_nj hj
  have w2 : ∀ w, σ2.1 (ztp w) = σ.1 (ztp w) := fun w => by rw [e2]; exact zsi_ne (fun e => z_tp1 w e.symm)
  refine zpc_if (fun q5 => zpc_ck (zpc_if (fun q7 => ?_) (fun q7 => zpc_some (Or.inl ⟨(by decide : ¬ (2 : Int32) = 0), k2, w2⟩)))) (fun q5 => zpc_some (Or.inl ⟨(by decide : ¬ (1 : Int32) = 0), k2, w2⟩))
  have h6 := zc_ler (8192) q5 (zr_c (lo := 8192) (hi := 8192) (by decide)) rv (by decide)
  have h8 := zc_eql (0) (0) q7 (zr_rem (lo := 0) (hi := 8191) 8192 (by decide) h6 (by decide)) (zr_c (lo := 0) (hi := 0) (by decide)) (by decide)
  have h9 := z_m8 h6 h8
  refine zpc_bv (fun σ3 e3 => zpc_bv (fun σ4 e4 => zpc_bv (fun σ5 e5 => zpc_bv (fun σ6 e6 => zpc_ck (zpc_bv (fun σ7 e7 => ?_))))))
  have w7 : ∀ w, σ7.1 (ztp w) = σ.1 (ztp w) := fun w => by
    have n : ¬ ztp w = 1 := fun e => z_tp1 w e.symm
    rw [e7, zsi_ne n, e6, zsi_ne n, e5, zsi_ne n, e4, zsi_ne n, e3, zsi_ne n]
    exact w2 w
  have a1 : σ7.1 1 1 = σ.1 1 0 := by
    rw [e7, zsi_nj (by decide), e6, zsi_nj (by decide), e5, zsi_nj (by decide), e4, zsi_nj (by decide), e3, zsi_ej]
    exact k2 0 (by decide)
  have a0 : σ7.1 1 0 = σ.1 1 1 := by
    rw [e7, zsi_nj (by decide), e6, zsi_nj (by decide), e5, zsi_nj (by decide), e4, zsi_ej]
    exact k2 1 (by decide)
  have a3 : σ7.1 1 3 = s0 := by rw [e7, zsi_nj (by decide), e6, zsi_nj (by decide), e5, zsi_ej]
  have a4 : σ7.1 1 4 = v1 := by rw [e7, zsi_nj (by decide), e6, zsi_ej]
  have a5 : σ7.1 1 5 = zBk v1 := by rw [e7, zsi_ej]; exact (z_bank h9).2
  have cb : zCb σ7 = fun j => σ.1 (ztp (σ.1 1 0)) (s0.toNatClampNeg + j) := by
    funext j
    unfold zCb
    rw [a1, a3, w7]
  have hb7 : zr 0 512 (σ7.1 1 3) := by rw [a3]; exact h0
  have hz7 : zr 0 262144 (σ7.1 1 4) := by rw [a4]; exact zr_w h9 (by decide)
  refine zpc_bi (p_header hb7 hz7) (fun σ8 v9 p => ?_)
  obtain ⟨p1, p2⟩ := p
  have p1 : σ8 = σ7 := p1
  subst p1
  have p2 : zIsH (σ8.1 1 4) (zCb σ8) v9 := p2
  rw [a4, cb] at p2
  refine zpc_bv (fun σ10 e10 => ?_)
  have n10 : ∀ j, ¬ j = 7 → σ10.1 1 j = σ8.1 1 j := fun j hj => by rw [e10]; exact zsi_nj hj
  have w10 : ∀ w, σ10.1 (ztp w) = σ.1 (ztp w) := fun w => by rw [e10, zsi_ne (fun e => z_tp1 w e.symm)]; exact w7 w
  have a7 : σ10.1 1 7 = v9 := by rw [e10]; exact zsi_ej
  have cb2 : zCb σ10 = fun j => σ.1 (ztp (σ.1 1 0)) (s0.toNatClampNeg + j) := by
    funext j
    unfold zCb
    rw [n10 1 (by decide), n10 3 (by decide), a1, a3, w10]
  refine zpc_bi (p_paging (by rw [n10 3 (by decide)]; exact hb7) (by rw [n10 4 (by decide)]; exact hz7)) (fun σ11 v12 p => ?_)
  obtain ⟨r1, r2⟩ := p
  have r1 : σ11 = σ10 := r1
  subst r1
  have r2 : zIsP (σ11.1 1 4) (zCb σ11) (σ11.1 1 7) v12 := r2
  rw [n10 4 (by decide), a4, cb2, a7] at r2
  refine zpc_bv (fun σ13 e13 => zpc_some (Or.inr ⟨rfl, ?_⟩))
  have n13 : ∀ j, ¬ j = 6 → σ13.1 1 j = σ11.1 1 j := fun j hj => by rw [e13]; exact zsi_nj hj
  have b7 : σ13.1 1 7 = v9 := (n13 7 (by decide)).trans a7
  have b6 : σ13.1 1 6 = v12 := by rw [e13]; exact zsi_ej
  refine ⟨⟨((n13 0 (by decide)).trans (n10 0 (by decide))).trans a0, ((n13 1 (by decide)).trans (n10 1 (by decide))).trans a1, ((n13 3 (by decide)).trans (n10 3 (by decide))).trans a3, (((n13 4 (by decide)).trans (n10 4 (by decide))).trans a4).trans e1, (((n13 5 (by decide)).trans (n10 5 (by decide))).trans a5).trans (by rw [e1])⟩, fun w => ?_, ?_, ?_, ?_⟩
  · show σ13.1 (ztp w) = _
    rw [e13, zsi_ne (fun e => z_tp1 w e.symm)]
    exact w10 w
  · show zIsH _ _ (σ13.1 1 7)
    rw [b7, ← e1]
    exact p2
  · show zIsP _ _ (σ13.1 1 7) (σ13.1 1 6)
    rw [b7, b6, ← e1]
    exact r2
  · rw [← e1]
    exact h9
/-- the reference's load -/
def zLdM (μ : zSt) (s0 : Int32) (r : zSt × Int32) : Prop := (¬ r.2 = 0 ∧ r.1.1 1 = μ.1 1 ∧ r.1.1 2 = μ.1 2 ∧ ∀ j, j ∈ [5, 6, 7, 8, 9] → r.1.1 0 j = μ.1 0 j) ∨ (r.2 = 0 ∧ zFin (zgi μ 0 2 - s0) (zBk (zgi μ 0 2 - s0)) (fun j => μ.1 1 (s0.toNatClampNeg + j) &&& 255) r)
theorem p_load26 {μ : zSt} {s0 : Int32} (hr : zr 0 262656 (zgi μ 0 2)) (h0 : zr 0 512 s0) : zpc (fX12_load_26 μ s0) (zLdM μ s0) := by
  unfold fX12_load_26
  refine zpc_bv (fun v e1 => zpc_bv (fun μ2 e2 => ?_))
  have rv : zr (-512) 262656 v := by rw [e1]; exact zr_sub (lo := -512) (hi := 262656) hr h0 (by decide)
  have err : ∀ x : Int32, ¬ x = 0 → zLdM μ s0 (μ2, x) := fun x hx => Or.inl ⟨hx, by rw [e2]; exact zsi_ne (by decide), by rw [e2]; exact zsi_ne (by decide), fun j hj => by rw [e2]; exact zsi_nj (fun r => by subst r; revert hj; decide)⟩
  refine zpc_if (fun q5 => zpc_ck (zpc_if (fun q7 => zpc_if (fun q9 => ?_) (fun _ => zpc_some (err 3 (by decide)))) (fun _ => zpc_some (err 2 (by decide))))) (fun _ => zpc_some (err 1 (by decide)))
  have h6 := zc_ler (8192) q5 (zr_c (lo := 8192) (hi := 8192) (by decide)) rv (by decide)
  have h9 := zc_lel (262144) q9 h6 (zr_c (lo := 262144) (hi := 262144) (by decide)) (by decide)
  refine zpc_bv (fun μ3 e3 => zpc_ck (zpc_bv (fun μ4 e4 => ?_)))
  have t3 : zgi μ3 0 5 = v := by rw [e3]; exact zsi_ej
  rw [t3] at e4
  have a5 : μ4.1 0 5 = v := by rw [e4, zsi_nj (by decide)]; exact t3
  have a6 : μ4.1 0 6 = zBk v := by rw [e4]; exact zsi_ej
  have a1 : μ4.1 1 = μ.1 1 := by rw [e4, zsi_ne (by decide), e3, zsi_ne (by decide), e2]; exact zsi_ne (by decide)
  have c0 : (0 : Int32).toInt = 0 := rfl
  refine zpc_mono (zpc_and (t_load_89 zfuel μ4 s0 0) (d_89 (z := v) (bk := zBk v) (B := fun j => μ.1 1 (s0.toNatClampNeg + j) &&& 255) (T := μ.1 1) (zr_w h9 (by decide)) (fun j => z_byte _) h0 (fun j _ => rfl) (z_bank h9).1 zfuel μ4 0 (zr_c (by decide)) a1 a5 a6 (fun j hj _ => by exfalso; omega))) (fun r p => Or.inr ⟨p.1.1, ?_⟩)
  rw [← e1]
  exact p.2
/-- both loads -/
theorem z2_load {σ μ : zSt} (h : zR6 σ μ) (hr : zr 0 262656 (zgi μ 0 2)) : zp2 (fX11_load σ ) (fX12_load μ ) (fun r r' => r.2 = r'.2 → zR6L 0 r.1 r'.1) := by
  have e12 : zgi σ 1 2 = zgi μ 0 2 := h.1
  have hrC : zr 0 262656 (zgi σ 1 2) := by rw [e12]; exact hr
  have hr1 := hr.1
  have hr2 := hr.2
  -- one offset for both
  obtain ⟨s0, hs0, hC, hM⟩ : ∃ s0, zr 0 512 s0 ∧ zpc (fX2_takeTape σ ) (zTake σ s0) ∧ ∀ μ1, zgi μ1 0 2 = zgi μ 0 2 → zpc (if (zrem (zgi μ1 0 2) 16384) = 512 then fX12_load_26 μ1 512 else fX12_load_26 μ1 0) (zLdM μ1 s0) := by
    unfold fX2_takeTape
    rw [e12]
    by_cases q : (zrem (zgi μ 0 2) 16384) = 512
    · refine ⟨512, zr_c (by decide), zpc_ck (zpc_if (fun _ => p_take21 hrC (zr_c (by decide))) (fun r => absurd q r)), fun μ1 e => ?_⟩
      rw [e]
      exact zpc_if (fun _ => p_load26 (by rw [e]; exact hr) (zr_c (by decide))) (fun r => absurd q r)
    · refine ⟨0, zr_c (by decide), zpc_ck (zpc_if (fun r => absurd r q) (fun _ => p_take21 hrC (zr_c (by decide)))), fun μ1 e => ?_⟩
      rw [e]
      exact zpc_if (fun r => absurd r q) (fun _ => p_load26 (by rw [e]; exact hr) (zr_c (by decide)))
  -- the class behind it
  have PC : zpc (fX11_load σ ) (zTake σ s0) := by
    unfold fX11_load fX11_load_28
    refine zpc_bi hC (fun σ1 v2 p => zpc_if (fun q => ?_) (fun _ => zpc_some p))
    have k1 : zKeC σ1 σ1 := ⟨rfl, rfl, rfl⟩
    refine zpc_bu (w_fX2_clearRam k1) (fun σ3 k3 => zpc_bu (w_fX11_clearAll k3) (fun σ4 k4 => zpc_ck (zpc_bs (zKeC.wi (k := 0) (j := 11) (v := 0) k4 (by decide)) (fun σ5 k5 => zpc_some ?_))))
    rcases p with ⟨p1, _⟩ | ⟨p1, ⟨a0, a1, a3, a4, a5⟩, w, p2, p3, p4⟩
    · exact absurd q p1
    · have r1 : σ5.1 1 = σ1.1 1 := k5.1
      refine Or.inr ⟨q, ⟨?_, ?_, ?_, ?_, ?_⟩, fun x => (k5.row x).trans (w x), ?_, ?_, p4⟩
      · show σ5.1 1 0 = _; rw [r1]; exact a0
      · show σ5.1 1 1 = _; rw [r1]; exact a1
      · show σ5.1 1 3 = _; rw [r1]; exact a3
      · show σ5.1 1 4 = _; rw [r1]; exact a4
      · show σ5.1 1 5 = _; rw [r1]; exact a5
      · show zIsH _ _ (σ5.1 1 7); rw [r1]; exact p2
      · show zIsP _ _ (σ5.1 1 7) (σ5.1 1 6); rw [r1]; exact p3
  have PM : zpc (fX12_load μ ) (zLdM μ s0) := by
    unfold fX12_load
    refine zpc_bv (fun μ1 e1 => zpc_ck ?_)
    have l := z_c02 e1
    have r1 : μ1.1 1 = μ.1 1 := by rw [e1]; exact zsi_ne (by decide)
    have r2 : μ1.1 2 = μ.1 2 := by rw [e1]; exact zsi_ne (by decide)
    refine zpc_mono (hM μ1 l) (fun r p => ?_)
    unfold zLdM at p ⊢
    rw [r1, r2, l] at p
    rcases p with ⟨p1, p2, p3, p4⟩ | p
    · exact Or.inl ⟨p1, p2, p3, fun j hj => (p4 j hj).trans (by rw [e1]; exact zsi_nj (fun r => by subst r; revert hj; decide))⟩
    · exact Or.inr p
  refine zp2_of PC PM (fun r r' p p' ev => ?_)
  obtain ⟨hL, hD, hCt⟩ := h.2
  rcases p with ⟨p1, p2, p3⟩ | ⟨p1, ⟨a0, a1, a3, a4, a5⟩, w, ph, pp, pz⟩
  · rcases p' with ⟨_, q2, q3, q4⟩ | ⟨q1, _⟩
    · refine ⟨fun j hj => by exfalso; omega, ?_, ?_⟩
      · rw [p2 0 (by decide), p2 1 (by decide)]; exact hD
      · exact hCt.keep (fun j hj => p2 j (fun e => by subst e; revert hj; decide)) (p3 _) q4 q3
    · exact absurd (ev.trans q1) p1
  · rcases p' with ⟨q1, _⟩ | ⟨_, ⟨f5, f6, fb⟩, fh, fp, fs⟩
    · exact absurd (ev.symm.trans p1) q1
    · rw [e12] at a4 a5 ph pp pz
      have z0 := pz.1
      have k0 := z_clamp hs0.1
      have ts : (zgi μ 0 2 - s0).toInt = (zgi μ 0 2).toInt - s0.toInt := z_tsub hr hs0 (by decide)
      -- bytes
      have eb : ∀ j : Nat, (j : Int) < (zgi μ 0 2 - s0).toInt → σ.1 (ztp (σ.1 1 0)) (s0.toNatClampNeg + j) = μ.1 1 (s0.toNatClampNeg + j) &&& 255 := fun j hj => hL _ (by have : (zgi μ 0 2).toInt = (μ.1 0 2).toInt := rfl; omega)
      have ph2 := zIsH.cong eb ph
      have hh : r.1.1 1 7 = r'.1.1 0 8 := ph2.one fh
      have pp2 := zIsP.cong eb pp
      rw [hh] at pp2
      have hp : r.1.1 1 6 = r'.1.1 0 7 := pp2.one fp
      obtain ⟨l1, l2⟩ := fh.lt (by omega)
      refine ⟨fun j hj => by exfalso; omega, ?_, ?_⟩
      · rw [a0, a1]; exact fun e => hD e.symm
      · refine ⟨a4.trans f5.symm, a5.trans f6.symm, hp, hh, fun j hj => ?_, fun hq => ?_⟩
        · rw [f5] at hj
          rw [a1, a3, w, eb j hj, fb j hj]
        · rw [f5]
          have l3 := l2 hq
          refine ⟨l3, ?_⟩
          rw [fs hq]
          exact zSum_cong (fun j hj => (fb j hj).symm) hq l3
