/-! the processor of both sides -/
def zCp (σ μ : zSt) : Prop := (∀ j : Nat, j ≤ 26 → σ.1 36 j = μ.1 3 j) ∧ σ.1 36 27 = μ.1 3 28 ∧ σ.1 36 28 = μ.1 3 27 ∧ (∀ j : Nat, j < 16 → zr 0 255 (σ.1 36 j)) ∧ (∀ j : Nat, 16 ≤ j → j ≤ 20 → zr 0 65535 (σ.1 36 j)) ∧ (∀ j : Nat, 21 ≤ j → j ≤ 22 → zr 0 255 (σ.1 36 j))
/-- what an instruction leaves as it is -/
def zFc (σ σ' : zSt) : Prop := (∀ k, ¬ k = 7 → ¬ k = 15 → ¬ k = 17 → ¬ k = 19 → ¬ k = 36 → σ'.1 k = σ.1 k) ∧ σ'.2 = σ.2
def zFm (μ μ' : zSt) : Prop := (∀ k, ¬ k = 0 → ¬ k = 3 → ¬ k = 5 → ¬ k = 6 → μ'.1 k = μ.1 k) ∧ (∀ j, 32 < j → μ'.1 3 j = μ.1 3 j) ∧ (∀ j, j < 31 ∨ 33 < j → μ'.1 0 j = μ.1 0 j) ∧ μ'.2 = μ.2
theorem zFc.rf {σ : zSt} : zFc σ σ := ⟨fun _ _ _ _ _ _ => rfl, rfl⟩
theorem zFm.rf {μ : zSt} : zFm μ μ := ⟨fun _ _ _ _ _ => rfl, fun _ _ => rfl, fun _ _ => rfl, rfl⟩
theorem zFc.tr {a b c : zSt} (h : zFc a b) (k : zFc b c) : zFc a c := ⟨fun i x y z w v => (k.1 i x y z w v).trans (h.1 i x y z w v), k.2.trans h.2⟩
theorem zFm.tr {a b c : zSt} (h : zFm a b) (k : zFm b c) : zFm a c := ⟨fun i x y z w => (k.1 i x y z w).trans (h.1 i x y z w), fun j hj => (k.2.1 j hj).trans (h.2.1 j hj), fun j hj => (k.2.2.1 j hj).trans (h.2.2.1 j hj), k.2.2.2.trans h.2.2.2⟩
theorem zFw.c {a b : zSt} (h : zFw a b) : zFc a b := ⟨fun k x y z w v => h.1 k y z w, h.2⟩
theorem zFv.m {a b : zSt} (h : zFv a b) : zFm a b := ⟨fun k x y z w => h.1 k y z w, fun j hj => h.2.1 j (Or.inr hj), fun j _ => by rw [h.1 0 (by decide) (by decide) (by decide)], h.2.2⟩
/-- both sides within an instruction that began at σ0, μ0 -/
def zS (σ0 μ0 σ μ : zSt) : Prop := zMe σ μ ∧ zCp σ μ ∧ zMr σ μ ∧ zFc σ0 σ ∧ zFm μ0 μ
section ZS
variable {σ0 μ0 σ μ : zSt}
theorem zS.eq (h : zS σ0 μ0 σ μ) {j : Nat} (hj : j ≤ 26) : σ.1 36 j = μ.1 3 j := h.2.1.1 j hj
theorem zS.b (h : zS σ0 μ0 σ μ) {j : Nat} (hj : j < 16) : zr 0 255 (σ.1 36 j) := h.2.1.2.2.2.1 j hj
theorem zS.w (h : zS σ0 μ0 σ μ) {j : Nat} (h1 : 16 ≤ j) (h2 : j ≤ 20) : zr 0 65535 (σ.1 36 j) := h.2.1.2.2.2.2.1 j h1 h2
theorem zMe.cpu {v w : Int32} {j i : Nat} (h : zMe σ μ) (hi : i ≤ 28) : zMe (zsi σ 36 j v) (zsi μ 3 i w) := by
  obtain ⟨h1, h2, h3, h4, h5, h6⟩ := h
  refine ⟨fun a ha => ?_, fun a ha => ?_, fun a ha => ?_, ?_, ?_, ?_⟩
  · rw [zsi_ne (by decide), zsi_ne (by decide)]; exact h1 a ha
  · rw [zsi_ne (by decide), zsi_ne (by decide)]; exact h2 a ha
  · rw [zsi_ne (by decide), zsi_nj (by omega)]; exact h3 a ha
  · rw [zsi_ne (by decide), zsi_nj (by omega)]; exact h4
  · exact h5.keep (fun a _ => by rw [zsi_ne (by decide)]) (zsi_ne (fun e => by rcases z_tp13 (σ.1 1 1) with q | q <;> rw [q] at e <;> exact absurd e (by decide))) (fun a _ => by rw [zsi_ne (by decide)]) (zsi_ne (by decide))
  · unfold zFil
    rw [zsi_ne (by decide), zsi_ne (by decide)]
    exact h6
theorem zMr.cpu {v w : Int32} {j i : Nat} (h : zMr σ μ) (hi : i ≤ 28) : zMr (zsi σ 36 j v) (zsi μ 3 i w) := by
  obtain ⟨h1, h2, h3, h4, h5, h6⟩ := h
  refine ⟨by rw [zsi_ne (by decide)]; exact h1, by rw [zsi_ne (by decide)]; exact h2, by rw [zsi_ne (by decide)]; exact h3, by rw [zsi_ne (by decide)]; exact h4, by rw [zsi_ne (by decide)]; exact h5, fun a x y => by rw [zsi_nj (by omega)]; exact h6 a x y⟩
/-- a register on both sides -/
theorem zS.set (h : zS σ0 μ0 σ μ) {j : Nat} {v : Int32} (hj : j ≤ 26) (hb : j < 16 → zr 0 255 v) (hw : 16 ≤ j → j ≤ 20 → zr 0 65535 v) (hr : 21 ≤ j → j ≤ 22 → zr 0 255 v) : zS σ0 μ0 (zsi σ 36 j v) (zsi μ 3 j v) := by
  obtain ⟨h1, ⟨c1, c2, c3, c4, c5, c6⟩, h3, h4, h5⟩ := h
  refine ⟨h1.cpu (by omega), ⟨fun a ha => ?_, ?_, ?_, fun a ha => ?_, fun a x y => ?_, fun a x y => ?_⟩, h3.cpu (by omega), h4.tr ⟨fun k _ _ _ _ n => zsi_ne n, rfl⟩, h5.tr ⟨fun k _ n _ _ => zsi_ne n, fun a ha => zsi_nj (by omega), fun a _ => by rw [zsi_ne (by decide)], rfl⟩⟩
  · by_cases q : a = j
    · rw [q, zsi_ej, zsi_ej]
    · rw [zsi_nj q, zsi_nj q]; exact c1 a ha
  · rw [zsi_nj (by omega), zsi_nj (by omega)]; exact c2
  · rw [zsi_nj (by omega), zsi_nj (by omega)]; exact c3
  · by_cases q : a = j
    · rw [q, zsi_ej]; exact hb (by omega)
    · rw [zsi_nj q]; exact c4 a ha
  · by_cases q : a = j
    · rw [q, zsi_ej]; exact hw (by omega) (by omega)
    · rw [zsi_nj q]; exact c5 a x y
  · by_cases q : a = j
    · rw [q, zsi_ej]; exact hr (by omega) (by omega)
    · rw [zsi_nj q]; exact c6 a x y
theorem zS.setb (h : zS σ0 μ0 σ μ) {j : Nat} {v w : Int32} (e : w = v) (hj : j < 16 ∨ j = 21 ∨ j = 22) (hv : zr 0 255 v) : zS σ0 μ0 (zsi σ 36 j v) (zsi μ 3 j w) := by
  subst e
  exact h.set (by omega) (fun _ => hv) (fun _ _ => zr_w hv (by decide)) (fun _ _ => hv)
theorem zS.setw (h : zS σ0 μ0 σ μ) {j : Nat} {v w : Int32} (e : w = v) (h1 : 16 ≤ j) (h2 : j ≤ 20) (hv : zr 0 65535 v) : zS σ0 μ0 (zsi σ 36 j v) (zsi μ 3 j w) := by
  subst e
  exact h.set (by omega) (fun x => by omega) (fun _ _ => hv) (fun x _ => by omega)
theorem zp2_andr {α β : Type} {o : Option α} {p : Option β} {Q : α → β → Prop} {P : β → Prop} (h : zp2 o p Q) (k : zpc p P) : zp2 o p (fun a b => Q a b ∧ P b) := fun a b e f => ⟨h a b e f, k b f⟩
theorem p_readr {μ : zSt} {x : Int32} : zpc (fX12_read μ x) (fun r => zr 0 255 r.2) := by
  unfold fX12_read fX12_read_80 fX12_read_111 fX12_read_138
  have ofB : ∀ (ν : zSt) (b v : Int32), zpc (zbi (fX12_ofBank ν b v) (fun σ1 v2 => some (σ1, v2))) (fun r => zr 0 255 r.2) := fun ν b v => zpc_bi (P := fun r => zr 0 255 r.2) (by unfold fX12_ofBank; exact zpc_ck (zpc_ck (zpc_ck (zpc_some (z_byte _))))) (fun σ1 v2 h => zpc_some h)
  exact zpc_bv (fun v _ => zpc_if (fun _ => zpc_bi (P := fun _ => True) (fun _ _ => trivial) (fun μ6 v7 _ => zpc_if (fun _ => zpc_if (fun _ => zpc_if (fun _ => zpc_some (show zr 0 255 (255 : Int32) from zr_c (by decide))) (fun _ => zpc_ck (zpc_some (z_byte _)))) (fun _ => zpc_if (fun _ => zpc_if (fun _ => zpc_ck (ofB _ _ _)) (fun _ => zpc_ck (ofB _ _ _))) (fun _ => zpc_if (fun _ => zpc_if (fun _ => zpc_ck (zpc_ck (ofB _ _ _))) (fun _ => ofB _ _ _)) (fun _ => zpc_ck (zpc_ck (ofB _ _ _)))))) (fun _ => zpc_bi (P := fun _ => True) (fun _ _ => trivial) (fun _ _ _ => zpc_ck (zpc_some (z_byte _)))))) (fun _ => zpc_ck (zpc_ck (zpc_some (z_byte _)))))
theorem zS.read (h : zS σ0 μ0 σ μ) {x y : Int32} (e : y = x) : zp2 (fX2_read σ x) (fX12_read μ y) (fun r r' => r.1 = σ ∧ r'.1 = μ ∧ r'.2 = r.2 ∧ zr 0 255 r.2) := by
  subst e
  exact zp2_mono (zp2_andr (z2_read h.1 h.2.2.1) p_readr) (fun a b q => ⟨q.1.1, q.1.2.1, q.1.2.2.symm, by rw [q.1.2.2]; exact q.2⟩)
theorem zMr.of (h : zMr σ μ) {σ' μ' : zSt} (a : zFw σ σ') (b : zFv μ μ') (pg : ∀ j : Nat, 29 ≤ j → j ≤ 32 → zr 0 255 (μ'.1 3 j)) : zMr σ' μ' := by
  obtain ⟨h1, h2, h3, h4, h5, h6⟩ := h
  have s1 : σ'.1 1 = σ.1 1 := a.1 1 (by decide) (by decide) (by decide)
  have m0 : μ'.1 0 = μ.1 0 := b.1 0 (by decide) (by decide) (by decide)
  unfold zMr
  rw [s1, m0]
  exact ⟨h1, h2, h3, h4, h5, pg⟩
/-- pages keep their range behind a write -/
theorem p_writer {μ : zSt} {x y : Int32} (h : ∀ j : Nat, 29 ≤ j → j ≤ 32 → zr 0 255 (μ.1 3 j)) : zpc (fX12_write μ x y) (fun r => ∀ j : Nat, 29 ≤ j → j ≤ 32 → zr 0 255 (r.1 3 j)) := by
  have w3 : ∀ (ν : zSt) (i : Nat) (v : Int32), (∀ j : Nat, 29 ≤ j → j ≤ 32 → zr 0 255 (ν.1 3 j)) → zr 0 255 v → ∀ j : Nat, 29 ≤ j → j ≤ 32 → zr 0 255 ((zsi ν 3 i v).1 3 j) := fun ν i v hn hv j j1 j2 => by
    by_cases q : j = i
    · rw [q, zsi_ej]; exact hv
    · rw [zsi_nj q]; exact hn j j1 j2
  have w5 : ∀ (ν : zSt) (k i : Nat) (v : Int32), ¬ 3 = k → (∀ j : Nat, 29 ≤ j → j ≤ 32 → zr 0 255 (ν.1 3 j)) → ∀ j : Nat, 29 ≤ j → j ≤ 32 → zr 0 255 ((zsi ν k i v).1 3 j) := fun ν k i v hk hn j j1 j2 => by
    rw [zsi_ne hk]; exact hn j j1 j2
  unfold fX12_write
  refine zpc_bv (fun v _ => zpc_bv (fun w ew => ?_))
  have hw : zr 0 255 w := by rw [ew]; exact z_byte _
  have a140 : ∀ ν : zSt, (∀ j : Nat, 29 ≤ j → j ≤ 32 → zr 0 255 (ν.1 3 j)) → zpc (fX12_write_140 ν v w) (fun r => ∀ j : Nat, 29 ≤ j → j ≤ 32 → zr 0 255 (r.1 3 j)) := fun ν hn => by
    unfold fX12_write_140 fX12_write_163
    exact zpc_if (fun _ => zpc_if (fun _ => zpc_ck (zpc_bv (fun ν1 e1 => zpc_some (by rw [e1]; exact w3 _ _ _ hn hw)))) (fun _ => zpc_some hn)) (fun _ => zpc_some hn)
  have a103 : ∀ ν : zSt, (∀ j : Nat, 29 ≤ j → j ≤ 32 → zr 0 255 (ν.1 3 j)) → zpc (fX12_write_103 ν v w) (fun r => ∀ j : Nat, 29 ≤ j → j ≤ 32 → zr 0 255 (r.1 3 j)) := fun ν hn => by
    unfold fX12_write_103
    exact zpc_if (fun _ => zpc_if (fun _ => a140 _ hn) (fun _ => zpc_ck (zpc_if (fun _ => zpc_ck (zpc_ck (zpc_bv (fun ν1 e1 => a140 _ (by rw [e1]; exact w3 _ _ _ hn hw))))) (fun _ => a140 _ hn)))) (fun _ => a140 _ hn)
  have a75 : ∀ ν : zSt, (∀ j : Nat, 29 ≤ j → j ≤ 32 → zr 0 255 (ν.1 3 j)) → zpc (fX12_write_75 ν v w) (fun r => ∀ j : Nat, 29 ≤ j → j ≤ 32 → zr 0 255 (r.1 3 j)) := fun ν hn => by
    unfold fX12_write_75
    exact zpc_if (fun _ => zpc_if (fun _ => a103 _ hn) (fun _ => zpc_ck (zpc_bv (fun ν1 e1 => a103 _ (by rw [e1]; exact w3 _ _ _ hn hw))))) (fun _ => a103 _ hn)
  have a52 : ∀ ν : zSt, (∀ j : Nat, 29 ≤ j → j ≤ 32 → zr 0 255 (ν.1 3 j)) → zpc (fX12_write_52 ν v w) (fun r => ∀ j : Nat, 29 ≤ j → j ≤ 32 → zr 0 255 (r.1 3 j)) := fun ν hn => by
    unfold fX12_write_52
    exact zpc_if (fun _ => zpc_if (fun _ => zpc_ck (zpc_bv (fun ν1 e1 => a75 _ (by rw [e1]; exact w3 _ _ _ hn hw)))) (fun _ => a75 _ hn)) (fun _ => a75 _ hn)
  have a31 : ∀ ν : zSt, (∀ j : Nat, 29 ≤ j → j ≤ 32 → zr 0 255 (ν.1 3 j)) → zpc (fX12_write_31 ν v w) (fun r => ∀ j : Nat, 29 ≤ j → j ≤ 32 → zr 0 255 (r.1 3 j)) := fun ν hn => by
    unfold fX12_write_31
    refine zpc_bi p_isBat (fun ν5 v6 p => ?_)
    have p1 : ν5 = ν := p.1
    subst p1
    refine zpc_if (fun _ => a52 _ hn) (fun _ => zpc_bi (P := fun r => r.1 = ν5) (by unfold fX12_batteryAt fX12_batteryAt_23; exact zpc_ck (zpc_if (fun _ => zpc_some rfl) (fun _ => zpc_some rfl))) (fun ν7 v8 e7 => zpc_ck (zpc_bv (fun ν9 e9 => a52 _ ?_))))
    have e7 : ν7 = ν5 := e7
    rw [e9, e7]
    exact w5 _ _ _ _ (by decide) hn
  exact zpc_if (fun _ => a31 _ h) (fun _ => zpc_ck (zpc_ck (zpc_bv (fun ν1 e1 => a31 _ (by rw [e1]; exact w5 _ _ _ _ (by decide) h)))))
theorem zS.write (h : zS σ0 μ0 σ μ) {x y v w : Int32} (e : y = x) (f : w = v) (hv : zr 0 255 v) : zp2 (fX2_write σ x v) (fX12_write μ y w) (fun r r' => zS σ0 μ0 r r' ∧ zFw σ r ∧ zFv μ r') := by
  subst e
  subst f
  obtain ⟨h1, h2, h3, h4, h5⟩ := h
  refine zp2_mono (zp2_andr (z2_write h1 h3 hv) (p_writer h3.2.2.2.2.2)) (fun r r' q => ?_)
  obtain ⟨⟨q1, q2, q3⟩, q4⟩ := q
  have s36 : r.1 36 = σ.1 36 := q2.1 36 (by decide) (by decide) (by decide)
  have m3 : ∀ j : Nat, j ≤ 28 → r'.1 3 j = μ.1 3 j := fun j hj => q3.2.1 j (Or.inl (by omega))
  refine ⟨⟨q1, ?_, h3.of q2 q3 q4, h4.tr q2.c, h5.tr q3.m⟩, q2, q3⟩
  obtain ⟨c1, c2, c3, c4, c5, c6⟩ := h2
  unfold zCp
  rw [s36]
  exact ⟨fun j hj => (c1 j hj).trans (m3 j (by omega)).symm, c2.trans (m3 28 (by decide)).symm, c3.trans (m3 27 (by decide)).symm, c4, c5, c6⟩
theorem zsi_comm {ν : zSt} {k i j : Nat} {v w : Int32} (h : ¬ i = j) : zsi (zsi ν k i v) k j w = zsi (zsi ν k j w) k i v := by
  refine Prod.ext (funext fun a => funext fun b => ?_) rfl
  rw [zsi_at, zsi_at, zsi_at, zsi_at]
  by_cases q1 : a = k ∧ b = j
  · rw [if_pos q1, if_neg (fun r => h (r.2.symm.trans q1.2)), if_pos q1]
  · rw [if_neg q1, if_neg q1]
/-! fetching -/
theorem z2_growR (h : zS σ0 μ0 σ μ) : zp2 (fX5_growR σ ) (fX12_grows μ ) (fun r r' => zS σ0 μ0 r r' ∧ r = zsi σ 36 22 (r.1 36 22) ∧ r' = zsi μ 3 22 (r'.1 3 22)) := by
  unfold fX5_growR fX12_grows
  have e : zgi μ 3 (22 : Int32).toNatClampNeg = zgi σ 36 (22 : Int32).toNatClampNeg := (h.eq (j := 22) (by decide)).symm
  rw [e]
  refine zp2_ckl (zp2_ckl (zp2_ckl (zp2_bvl (fun σ1 e1 => zp2_ckr (zp2_ckr (zp2_ckr (zp2_bvr (fun μ1 f1 => zp2_some ⟨?_, ?_, ?_⟩))))))))
  · rw [e1, f1]
    exact h.setb (j := 22) rfl (by decide) (zr_or (lo := 0) (hi := 255) 8 (zr_andr (lo := 0) (hi := 128) (zr_c (lo := 128) (hi := 128) (by decide)) (by decide)) (zr_andr (lo := 0) (hi := 127) (zr_c (lo := 127) (hi := 127) (by decide)) (by decide)) (by decide))
  · rw [show σ1.1 36 22 = _ from (congrArg (fun s : zSt => s.1 36 22) e1).trans zsi_ej]; exact e1
  · rw [show μ1.1 3 22 = _ from (congrArg (fun s : zSt => s.1 3 22) f1).trans zsi_ej]; exact f1
theorem z2_next (h : zS σ0 μ0 σ μ) : zp2 (fX5_fetch σ ) (fX12_next μ ) (fun r r' => zS σ0 μ0 r.1 r'.1 ∧ r'.2 = r.2 ∧ zr 0 255 r.2) := by
  unfold fX5_fetch fX12_next
  have e : zgi μ 3 (19 : Int32).toNatClampNeg = zgi σ 36 (19 : Int32).toNatClampNeg := (h.eq (j := 19) (by decide)).symm
  refine zp2_ckl (zp2_ckr (zp2_bii (h.read e) (fun σ1 v μ1 w q => ?_)))
  obtain ⟨q1, q2, q3, q4⟩ := q
  have q1 : σ1 = σ := q1
  have q2 : μ1 = μ := q2
  subst q1
  subst q2
  rw [e]
  refine zp2_ckl (zp2_ckl (zp2_bvl (fun σ3 e3 => zp2_ckr (zp2_ckr (zp2_bvr (fun μ3 f3 => zp2_some ⟨?_, q3, q4⟩))))))
  show zS σ0 μ0 σ3 μ3
  rw [e3, f3]
  exact h.setw (j := 19) rfl (by decide) (by decide) (zr_andr (lo := 0) (hi := 65535) (zr_c (lo := 65535) (hi := 65535) (by decide)) (by decide))
end ZS
