def sM : List zSeg := [(0, 2, 2, 0, 262656), (0, 3, 3, 0, 2), (0, 5, 5, 0, 262144), (0, 6, 6, 0, 16), (0, 7, 7, 0, 3), (0, 8, 8, -1, 32767), (0, 31, 31, 0, 17), (0, 32, 32, 0, 1), (0, 39, 39, 0, 40), (22, 0, 255, 0, 31), (24, 0, 255, 0, 31), (3, 0, 15, 0, 255), (3, 16, 20, 0, 65535), (3, 0, 20, 0, 65535), (3, 21, 22, 0, 255), (3, 23, 24, 0, 1), (3, 25, 25, 0, 2), (3, 26, 28, 0, 1), (3, 29, 35, 0, 255), (3, 36, 41, 0, 255), (3, 44, 46, 0, 1), (3, 47, 57, 0, 255), (3, 58, 58, 0, 16383), (3, 59, 59, 0, 3), (3, 60, 60, 0, 255), (3, 61, 61, 0, 1), (3, 62, 62, 0, 255), (3, 63, 63, 0, 1), (3, 65, 65, 0, 255), (3, 66, 66, 0, 313), (3, 67, 67, 0, 227), (3, 68, 68, 0, 255), (3, 69, 71, 0, 1023), (3, 78, 81, 0, 15), (3, 82, 82, 0, 7), (3, 85, 85, 0, 65535), (3, 86, 86, 0, 7), (3, 87, 87, 0, 4096), (3, 88, 88, 0, 4095), (3, 89, 89, 0, 8), (3, 98, 161, 0, 255), (3, 162, 162, 0, 63), (3, 163, 163, 0, 3), (3, 169, 169, 0, 4096), (3, 170, 170, 0, 4095), (3, 171, 171, 0, 256), (12, 0, 15, 0, 255), (12, 16, 20, 0, 65535), (12, 0, 20, 0, 65535), (12, 21, 22, 0, 255), (12, 23, 24, 0, 1), (12, 25, 25, 0, 2), (12, 26, 28, 0, 1), (12, 29, 35, 0, 255), (12, 36, 41, 0, 255), (12, 44, 46, 0, 1), (12, 47, 57, 0, 255), (12, 58, 58, 0, 16383), (12, 59, 59, 0, 3), (12, 60, 60, 0, 255), (12, 61, 61, 0, 1), (12, 62, 62, 0, 255), (12, 63, 63, 0, 1), (12, 65, 65, 0, 255), (12, 66, 66, 0, 313), (12, 67, 67, 0, 227), (12, 68, 68, 0, 255), (12, 69, 71, 0, 1023), (12, 78, 81, 0, 15), (12, 82, 82, 0, 7), (12, 85, 85, 0, 65535), (12, 86, 86, 0, 7), (12, 87, 87, 0, 4096), (12, 88, 88, 0, 4095), (12, 89, 89, 0, 8), (12, 98, 161, 0, 255), (12, 162, 162, 0, 63), (12, 163, 163, 0, 3), (12, 169, 169, 0, 4096), (12, 170, 170, 0, 4095), (12, 171, 171, 0, 256)]
def zZM : List (Nat × Nat) := [(0, 2), (0, 3), (0, 19), (3, 66), (3, 67), (3, 168), (12, 66), (12, 67), (12, 168), (0, 39)]
def zLM : List (Nat × Nat) := [(4, 0), (4, 2), (13, 0), (0, 30), (4, 4), (13, 4), (13, 2)]
def zQM : Nat × Nat × Int := (0, 31, 0)
def zIM (G : Nat → Int) (σ : zSt) : Prop := zIV sM zZM zLM zQM G σ ∧ zYM σ
def zPM (σ : zSt) : Prop := zSg sM σ ∧ zSp zQM σ ∧ zYM σ
def zEM (l : List Nat) (G : Nat → Int) (σ : zSt) : Prop := ∃ G1, zIM G1 σ ∧ ∀ i, ¬ i ∈ l → G1 i = G i
section ZSM
variable {G : Nat → Int} {σ : zSt} {l : List Nat}
theorem zIM.sg (h : zIM G σ) : zSg sM σ := h.1.1
theorem zIM.sp (h : zIM G σ) : zSp zQM σ := h.1.2.2.2
theorem zIM.fz (h : zIM G σ) : zFz zZM G σ := h.1.2.1
theorem zIM.fl (h : zIM G σ) : zFl zLM G σ := h.1.2.2.1
theorem zIM.Y (h : zIM G σ) : zYM σ := h.2
theorem zIM.P (h : zIM G σ) : zPM σ := ⟨h.sg, h.sp, h.2⟩
theorem zPM.sg (h : zPM σ) : zSg sM σ := h.1
theorem zPM.sp (h : zPM σ) : zSp zQM σ := h.2.1
theorem zPM.Y (h : zPM σ) : zYM σ := h.2.2
theorem zIM.E (h : zIM G σ) : zEM l G σ := ⟨G, h, fun _ _ => rfl⟩
theorem zEM.sg (h : zEM l G σ) : zSg sM σ := by obtain ⟨G1, h1, _⟩ := h; exact h1.sg
theorem zEM.sp (h : zEM l G σ) : zSp zQM σ := by obtain ⟨G1, h1, _⟩ := h; exact h1.sp
theorem zEM.Y (h : zEM l G σ) : zYM σ := by obtain ⟨G1, h1, _⟩ := h; exact h1.2
theorem zEM.P (h : zEM l G σ) : zPM σ := by obtain ⟨G1, h1, _⟩ := h; exact h1.P
theorem zIM.wi {k j : Nat} {v : Int32} {lo hi : Int} (h : zIM G σ) (a b : Nat) (hj : a ≤ j ∧ j ≤ b) (hv : zr lo hi v) (c : (zWi sM zZM zQM k a b lo hi && zOM k a b) = true) : zIM G (zsi σ k j v) := by
  rw [Bool.and_eq_true] at c
  exact ⟨zIV_i a b h.1 hj hv c.1, h.2.w hj c.2⟩
theorem zIM.wk {k j : Nat} {v : Int32} (h : zIM G σ) (c : (zWk sM zZM zQM k && (!Nat.beq k 0 && (!Nat.beq k 3 && !Nat.beq k 12))) = true) : zIM G (zsi σ k j v) := by
  rw [Bool.and_eq_true, Bool.and_eq_true, Bool.and_eq_true] at c
  exact ⟨zIV_k h.1 c.1, h.2.ww (Or.inl (z_nb c.2.1)) (Or.inl ⟨z_nb c.2.2.1, z_nb c.2.2.2⟩)⟩
theorem zIM.wl {k j : Nat} {v : Int64} (h : zIM G σ) (a b : Nat) (hj : a ≤ j ∧ j ≤ b) (c : zLM.all (fun z => !Nat.beq z.1 k || (Nat.blt b z.2 || Nat.blt z.2 a)) = true) : zIM G (zsl σ k j v) := ⟨zIV_l a b h.1 hj c, h.2⟩
theorem zIM.sp0 {v : Int32} {lo hi : Int} (h : zIM G σ) (hv : zr lo hi v) (c : (decide (lo = 0 ∧ hi = 0) && zWs sM zZM zQM lo hi) = true) : zIM G (zsi σ 0 31 v) := by
  rw [Bool.and_eq_true] at c
  have e := of_decide_eq_true c.1
  have h1 := hv.1
  have h2 := hv.2
  exact ⟨zIV_s h.1 hv c.2 (Or.inl (by show v.toInt = 0; omega)), h.2.ww (by omega) (by omega)⟩
theorem zIM.sp1 {v : Int32} {lo hi : Int} (h : zIM G σ) (hv : zr lo hi v) (c : (decide (16 ≤ lo) && zWs sM zZM zQM lo hi) = true) : zIM G (zsi σ 0 31 v) := by
  rw [Bool.and_eq_true] at c
  have e := of_decide_eq_true c.1
  have h1 := hv.1
  exact ⟨zIV_s h.1 hv c.2 (Or.inr (by omega)), h.2.ww (by omega) (by omega)⟩
theorem zIM.we {k j : Nat} {v : Int32} {lo hi : Int} (h : zIM G σ) (a b : Nat) (hj : a ≤ j ∧ j ≤ b) (hv : zr lo hi v) (c : (zWe sM zZM zQM l k a b lo hi && zOM k a b) = true) : zEM l G (zsi σ k j v) := by
  rw [Bool.and_eq_true] at c
  obtain ⟨G1, h1, g1⟩ := zIV_e a b h.1 hj hv c.1
  exact ⟨G1, ⟨h1, h.2.w hj c.2⟩, g1⟩
theorem zIM.lv {x v : Int32} {lo hi : Int} (h : zIM G σ) (t : zat 0 x) (hv : zr lo hi v) (c : 0 ≤ lo ∧ hi ≤ 127) : zIM G (zsi σ 3 x.toNatClampNeg v) := by
  obtain ⟨n, hn, e⟩ := t
  have ex : x.toNatClampNeg = 172 + 6 * n := by have : x.toNatClampNeg = x.toInt.toNat := rfl; omega
  obtain ⟨h1, ⟨h2, h3⟩, h4, h5⟩ := h.2
  refine ⟨zIV_i 172 279 h.1 (by omega) (zr_any (x := v)) (by decide +kernel), ?_, ⟨fun i hi => ?_, fun i hi => ?_⟩, fun i hi => ?_, fun i hi => ?_⟩
  · rw [zsi_off (by omega), zsi_off (by omega)]; exact h1
  · by_cases q : i = n
    · subst q; rw [ex, zsi_ej]; exact zr_w hv c
    · rw [zsi_off (by omega)]; exact h2 i hi
  · rw [zsi_off (by omega)]; exact h3 i hi
  · rw [zsi_off (by omega)]; exact h4 i hi
  · rw [zsi_off (by omega)]; exact h5 i hi
theorem zIM.op {c : Int} {x v : Int32} (h : zIM G σ) (t : zat c x) (q : 0 < c ∧ c < 6) : zIM G (zsi σ 3 x.toNatClampNeg v) := by
  obtain ⟨n, hn, e⟩ := t
  have ex : (x.toNatClampNeg : Int) = 172 + 6 * n + c := by have : x.toNatClampNeg = x.toInt.toNat := rfl; omega
  obtain ⟨h1, ⟨h2, h3⟩, h4, h5⟩ := h.2
  refine ⟨zIV_i 172 279 h.1 (by omega) (zr_any (x := v)) (by decide +kernel), ?_, ⟨fun i hi => ?_, fun i hi => ?_⟩, fun i hi => ?_, fun i hi => ?_⟩
  · rw [zsi_off (by omega), zsi_off (by omega)]; exact h1
  · rw [zsi_off (by omega)]; exact h2 i hi
  · rw [zsi_off (by omega)]; exact h3 i hi
  · rw [zsi_off (by omega)]; exact h4 i hi
  · rw [zsi_off (by omega)]; exact h5 i hi
theorem zIM.pl1 {x v : Int32} {lo hi : Int} (h : zIM G σ) (t : zpt 1 x) (hv : zr lo hi v) (c : 0 ≤ lo ∧ hi ≤ 1) : zIM G (zsi σ 3 x.toNatClampNeg v) := by
  obtain ⟨n, hn, e⟩ := t
  have ex : x.toNatClampNeg = 281 + 3 * n := by have : x.toNatClampNeg = x.toInt.toNat := rfl; omega
  obtain ⟨h1, ⟨h2, h3⟩, h4, h5⟩ := h.2
  refine ⟨zIV_i 280 1047 h.1 (by omega) (zr_any (x := v)) (by decide +kernel), ?_, ⟨fun i hi => ?_, fun i hi => ?_⟩, fun i hi => ?_, fun i hi => ?_⟩
  · rw [zsi_off (by omega), zsi_off (by omega)]; exact h1
  · rw [zsi_off (by omega)]; exact h2 i hi
  · rw [zsi_off (by omega)]; exact h3 i hi
  · by_cases q : i = n
    · subst q; rw [ex, zsi_ej]; exact zr_w hv c
    · rw [zsi_off (by omega)]; exact h4 i hi
  · rw [zsi_off (by omega)]; exact h5 i hi
theorem zIM.pl {c : Int} {x v : Int32} (h : zIM G σ) (t : zpt c x) (q : c = 0 ∨ c = 2) : zIM G (zsi σ 3 x.toNatClampNeg v) := by
  obtain ⟨n, hn, e⟩ := t
  have ex : (x.toNatClampNeg : Int) = 280 + 3 * n + c := by have : x.toNatClampNeg = x.toInt.toNat := rfl; omega
  obtain ⟨h1, ⟨h2, h3⟩, h4, h5⟩ := h.2
  refine ⟨zIV_i 280 1047 h.1 (by omega) (zr_any (x := v)) (by decide +kernel), ?_, ⟨fun i hi => ?_, fun i hi => ?_⟩, fun i hi => ?_, fun i hi => ?_⟩
  · rw [zsi_off (by omega), zsi_off (by omega)]; exact h1
  · rw [zsi_off (by omega)]; exact h2 i hi
  · rw [zsi_off (by omega)]; exact h3 i hi
  · rw [zsi_off (by omega)]; exact h4 i hi
  · rw [zsi_off (by omega)]; exact h5 i hi
theorem zIM.wb {v : Int32} {lo hi : Int} (h : zIM G σ) (hv : zr lo hi v) (c : 1 ≤ lo ∧ hi ≤ 16) : zIM G (zsi σ 0 6 v) := by
  obtain ⟨h1, ⟨h2, h3⟩, h4, h5⟩ := h.2
  have v1 := hv.1
  refine ⟨zIV_i 6 6 h.1 (by omega) (zr_w (lo := 0) (hi := 16) hv (by omega)) (by decide +kernel), Or.inr ?_, ⟨fun i hi => ?_, fun i hi => ?_⟩, fun i hi => ?_, fun i hi => ?_⟩
  · rw [zsi_ej]; omega
  · rw [zsi_off (by omega)]; exact h2 i hi
  · rw [zsi_off (by omega)]; exact h3 i hi
  · rw [zsi_off (by omega)]; exact h4 i hi
  · rw [zsi_off (by omega)]; exact h5 i hi
theorem zIM.wp {v : Int32} {lo hi a b : Int} (h : zIM G σ) (hv : zr lo hi v) (hb : zr a b (zgi σ 0 6)) (c : 0 ≤ lo ∧ hi ≤ 3 ∧ 1 ≤ a) : zIM G (zsi σ 0 7 v) := by
  obtain ⟨h1, ⟨h2, h3⟩, h4, h5⟩ := h.2
  have b1 : a ≤ (σ.1 0 6).toInt := hb.1
  refine ⟨zIV_i 7 7 h.1 (by omega) (zr_w (lo := 0) (hi := 3) hv (by omega)) (by decide +kernel), Or.inr ?_, ⟨fun i hi => ?_, fun i hi => ?_⟩, fun i hi => ?_, fun i hi => ?_⟩
  · rw [zsi_off (by omega)]; omega
  · rw [zsi_off (by omega)]; exact h2 i hi
  · rw [zsi_off (by omega)]; exact h3 i hi
  · rw [zsi_off (by omega)]; exact h4 i hi
  · rw [zsi_off (by omega)]; exact h5 i hi
theorem zEM.lift {σ1 : zSt} (h : zEM l G σ) (k : ∀ G1, zIM G1 σ → zIM G1 σ1) : zEM l G σ1 := by obtain ⟨G1, h1, g1⟩ := h; exact ⟨G1, k G1 h1, g1⟩
theorem zEM.wi {k j : Nat} {v : Int32} {lo hi : Int} (h : zEM l G σ) (a b : Nat) (hj : a ≤ j ∧ j ≤ b) (hv : zr lo hi v) (c : (zWe sM zZM zQM l k a b lo hi && zOM k a b) = true) : zEM l G (zsi σ k j v) := by
  obtain ⟨G1, h1, g1⟩ := h
  obtain ⟨G2, h2, g2⟩ := h1.we a b hj hv c
  exact ⟨G2, h2, fun i hi => (g2 i hi).trans (g1 i hi)⟩
theorem zEM.wk {k j : Nat} {v : Int32} (h : zEM l G σ) (c : (zWk sM zZM zQM k && (!Nat.beq k 0 && (!Nat.beq k 3 && !Nat.beq k 12))) = true) : zEM l G (zsi σ k j v) := h.lift (fun _ h1 => h1.wk c)
theorem zEM.wl {k j : Nat} {v : Int64} (h : zEM l G σ) (a b : Nat) (hj : a ≤ j ∧ j ≤ b) (c : zLM.all (fun z => !Nat.beq z.1 k || (Nat.blt b z.2 || Nat.blt z.2 a)) = true) : zEM l G (zsl σ k j v) := h.lift (fun _ h1 => h1.wl a b hj c)
theorem zEM.sub {l1 : List Nat} (h : zEM l1 G σ) (c : l1.all (fun i => l.contains i) = true) : zEM l G σ := by
  obtain ⟨G1, h1, g1⟩ := h
  rw [List.all_eq_true] at c
  exact ⟨G1, h1, fun i hi => g1 i (fun r => hi (List.contains_iff_mem.mp (c i r)))⟩
theorem zEM.upi {o : Option (zSt × Int32)} {Q : Int32 → Prop} (h : zEM l G σ) (k : ∀ G1, zIM G1 σ → zok o (zAi (zIM G1) Q)) : zok o (zAi (zEM l G) Q) := by
  obtain ⟨G1, h1, g1⟩ := h
  exact zok_mono (k G1 h1) (fun r q => ⟨⟨G1, q.1, g1⟩, q.2⟩)
theorem zEM.uEi {o : Option (zSt × Int32)} {Q : Int32 → Prop} {l1 : List Nat} (h : zEM l G σ) (c : l1.all (fun i => l.contains i) = true) (k : ∀ G1, zEM l1 G1 σ → zok o (zAi (zEM l1 G1) Q)) : zok o (zAi (zEM l G) Q) := by
  obtain ⟨G1, h1, g1⟩ := h
  rw [List.all_eq_true] at c
  have k1 : ∀ x, zEM l1 G1 x → zEM l G x := fun x hx => by
    obtain ⟨G2, h2, g2⟩ := hx
    exact ⟨G2, h2, fun i hi => (g2 i (fun r => hi (List.contains_iff_mem.mp (c i r)))).trans (g1 i hi)⟩
  exact zok_mono (k G1 h1.E) (fun r q => ⟨k1 _ q.1, q.2⟩)
theorem zEM.upl {o : Option (zSt × Int64)} {Q : Int64 → Prop} (h : zEM l G σ) (k : ∀ G1, zIM G1 σ → zok o (zAL (zIM G1) Q)) : zok o (zAL (zEM l G) Q) := by
  obtain ⟨G1, h1, g1⟩ := h
  exact zok_mono (k G1 h1) (fun r q => ⟨⟨G1, q.1, g1⟩, q.2⟩)
theorem zEM.uEl {o : Option (zSt × Int64)} {Q : Int64 → Prop} {l1 : List Nat} (h : zEM l G σ) (c : l1.all (fun i => l.contains i) = true) (k : ∀ G1, zEM l1 G1 σ → zok o (zAL (zEM l1 G1) Q)) : zok o (zAL (zEM l G) Q) := by
  obtain ⟨G1, h1, g1⟩ := h
  rw [List.all_eq_true] at c
  have k1 : ∀ x, zEM l1 G1 x → zEM l G x := fun x hx => by
    obtain ⟨G2, h2, g2⟩ := hx
    exact ⟨G2, h2, fun i hi => (g2 i (fun r => hi (List.contains_iff_mem.mp (c i r)))).trans (g1 i hi)⟩
  exact zok_mono (k G1 h1.E) (fun r q => ⟨k1 _ q.1, q.2⟩)
theorem zEM.upu {o : Option zSt} (h : zEM l G σ) (k : ∀ G1, zIM G1 σ → zok o (zIM G1)) : zok o (zEM l G) := by
  obtain ⟨G1, h1, g1⟩ := h
  exact zok_mono (k G1 h1) (fun r q => ⟨G1, q, g1⟩)
theorem zEM.uEu {o : Option zSt} {l1 : List Nat} (h : zEM l G σ) (c : l1.all (fun i => l.contains i) = true) (k : ∀ G1, zEM l1 G1 σ → zok o (zEM l1 G1)) : zok o (zEM l G) := by
  obtain ⟨G1, h1, g1⟩ := h
  rw [List.all_eq_true] at c
  have k1 : ∀ x, zEM l1 G1 x → zEM l G x := fun x hx => by
    obtain ⟨G2, h2, g2⟩ := hx
    exact ⟨G2, h2, fun i hi => (g2 i (fun r => hi (List.contains_iff_mem.mp (c i r)))).trans (g1 i hi)⟩
  exact zok_mono (k G1 h1.E) (fun r q => k1 _ q)
theorem zEM.upR {α : Type} {g : α → zSt} {o : Option α} (h : zEM l G σ) (k : ∀ G1, zIM G1 σ → zok o (fun r => zIM G1 (g r))) : zok o (fun r => zEM l G (g r)) := by
  obtain ⟨G1, h1, g1⟩ := h
  exact zok_mono (k G1 h1) (fun r q => ⟨G1, q, g1⟩)
theorem zEM.upTi {o : Option zRi} {ks : List Nat} (h : zEM l G σ) (k : ∀ G1, zIM G1 σ → zok o (zTi (zIM G1) ks)) : zok o (zTi (zEM l G) ks) := by
  obtain ⟨G1, h1, g1⟩ := h
  exact zok_mono (k G1 h1) (fun r q => ⟨⟨G1, q.1, g1⟩, q.2⟩)
theorem zEM.upTl {o : Option zRl} {ks : List Nat} (h : zEM l G σ) (k : ∀ G1, zIM G1 σ → zok o (zTl (zIM G1) ks)) : zok o (zTl (zEM l G) ks) := by
  obtain ⟨G1, h1, g1⟩ := h
  exact zok_mono (k G1 h1) (fun r q => ⟨⟨G1, q.1, g1⟩, q.2⟩)
theorem zEM.upTu {o : Option zRu} {ks : List Nat} (h : zEM l G σ) (k : ∀ G1, zIM G1 σ → zok o (zTu (zIM G1) ks)) : zok o (zTu (zEM l G) ks) := by
  obtain ⟨G1, h1, g1⟩ := h
  exact zok_mono (k G1 h1) (fun r q => ⟨⟨G1, q.1, g1⟩, q.2⟩)
theorem rM_0 (h : zSg sM σ) (j : Nat) (hj : 2 ≤ j ∧ j ≤ 2) : zr (0) (262656) (zgi σ 0 j) := h _ (List.mem_of_getElem? (i := 0) rfl) j hj.1 hj.2
theorem rM_1 (h : zSg sM σ) (j : Nat) (hj : 3 ≤ j ∧ j ≤ 3) : zr (0) (2) (zgi σ 0 j) := h _ (List.mem_of_getElem? (i := 1) rfl) j hj.1 hj.2
theorem rM_2 (h : zSg sM σ) (j : Nat) (hj : 5 ≤ j ∧ j ≤ 5) : zr (0) (262144) (zgi σ 0 j) := h _ (List.mem_of_getElem? (i := 2) rfl) j hj.1 hj.2
theorem rM_3 (h : zSg sM σ) (j : Nat) (hj : 6 ≤ j ∧ j ≤ 6) : zr (0) (16) (zgi σ 0 j) := h _ (List.mem_of_getElem? (i := 3) rfl) j hj.1 hj.2
theorem rM_4 (h : zSg sM σ) (j : Nat) (hj : 7 ≤ j ∧ j ≤ 7) : zr (0) (3) (zgi σ 0 j) := h _ (List.mem_of_getElem? (i := 4) rfl) j hj.1 hj.2
theorem rM_5 (h : zSg sM σ) (j : Nat) (hj : 8 ≤ j ∧ j ≤ 8) : zr (-1) (32767) (zgi σ 0 j) := h _ (List.mem_of_getElem? (i := 5) rfl) j hj.1 hj.2
theorem rM_6 (h : zSg sM σ) (j : Nat) (hj : 31 ≤ j ∧ j ≤ 31) : zr (0) (17) (zgi σ 0 j) := h _ (List.mem_of_getElem? (i := 6) rfl) j hj.1 hj.2
theorem rM_7 (h : zSg sM σ) (j : Nat) (hj : 32 ≤ j ∧ j ≤ 32) : zr (0) (1) (zgi σ 0 j) := h _ (List.mem_of_getElem? (i := 7) rfl) j hj.1 hj.2
theorem rM_8 (h : zSg sM σ) (j : Nat) (hj : 39 ≤ j ∧ j ≤ 39) : zr (0) (40) (zgi σ 0 j) := h _ (List.mem_of_getElem? (i := 8) rfl) j hj.1 hj.2
theorem rM_9 (h : zSg sM σ) (j : Nat) (hj : 0 ≤ j ∧ j ≤ 255) : zr (0) (31) (zgi σ 22 j) := h _ (List.mem_of_getElem? (i := 9) rfl) j hj.1 hj.2
theorem rM_10 (h : zSg sM σ) (j : Nat) (hj : 0 ≤ j ∧ j ≤ 255) : zr (0) (31) (zgi σ 24 j) := h _ (List.mem_of_getElem? (i := 10) rfl) j hj.1 hj.2
theorem rM_11 (h : zSg sM σ) (j : Nat) (hj : 0 ≤ j ∧ j ≤ 15) : zr (0) (255) (zgi σ 3 j) := h _ (List.mem_of_getElem? (i := 11) rfl) j hj.1 hj.2
theorem rM_12 (h : zSg sM σ) (j : Nat) (hj : 16 ≤ j ∧ j ≤ 20) : zr (0) (65535) (zgi σ 3 j) := h _ (List.mem_of_getElem? (i := 12) rfl) j hj.1 hj.2
theorem rM_13 (h : zSg sM σ) (j : Nat) (hj : 0 ≤ j ∧ j ≤ 20) : zr (0) (65535) (zgi σ 3 j) := h _ (List.mem_of_getElem? (i := 13) rfl) j hj.1 hj.2
theorem rM_14 (h : zSg sM σ) (j : Nat) (hj : 21 ≤ j ∧ j ≤ 22) : zr (0) (255) (zgi σ 3 j) := h _ (List.mem_of_getElem? (i := 14) rfl) j hj.1 hj.2
theorem rM_15 (h : zSg sM σ) (j : Nat) (hj : 23 ≤ j ∧ j ≤ 24) : zr (0) (1) (zgi σ 3 j) := h _ (List.mem_of_getElem? (i := 15) rfl) j hj.1 hj.2
theorem rM_16 (h : zSg sM σ) (j : Nat) (hj : 25 ≤ j ∧ j ≤ 25) : zr (0) (2) (zgi σ 3 j) := h _ (List.mem_of_getElem? (i := 16) rfl) j hj.1 hj.2
theorem rM_17 (h : zSg sM σ) (j : Nat) (hj : 26 ≤ j ∧ j ≤ 28) : zr (0) (1) (zgi σ 3 j) := h _ (List.mem_of_getElem? (i := 17) rfl) j hj.1 hj.2
theorem rM_18 (h : zSg sM σ) (j : Nat) (hj : 29 ≤ j ∧ j ≤ 35) : zr (0) (255) (zgi σ 3 j) := h _ (List.mem_of_getElem? (i := 18) rfl) j hj.1 hj.2
theorem rM_19 (h : zSg sM σ) (j : Nat) (hj : 36 ≤ j ∧ j ≤ 41) : zr (0) (255) (zgi σ 3 j) := h _ (List.mem_of_getElem? (i := 19) rfl) j hj.1 hj.2
theorem rM_20 (h : zSg sM σ) (j : Nat) (hj : 44 ≤ j ∧ j ≤ 46) : zr (0) (1) (zgi σ 3 j) := h _ (List.mem_of_getElem? (i := 20) rfl) j hj.1 hj.2
theorem rM_21 (h : zSg sM σ) (j : Nat) (hj : 47 ≤ j ∧ j ≤ 57) : zr (0) (255) (zgi σ 3 j) := h _ (List.mem_of_getElem? (i := 21) rfl) j hj.1 hj.2
theorem rM_22 (h : zSg sM σ) (j : Nat) (hj : 58 ≤ j ∧ j ≤ 58) : zr (0) (16383) (zgi σ 3 j) := h _ (List.mem_of_getElem? (i := 22) rfl) j hj.1 hj.2
theorem rM_23 (h : zSg sM σ) (j : Nat) (hj : 59 ≤ j ∧ j ≤ 59) : zr (0) (3) (zgi σ 3 j) := h _ (List.mem_of_getElem? (i := 23) rfl) j hj.1 hj.2
theorem rM_24 (h : zSg sM σ) (j : Nat) (hj : 60 ≤ j ∧ j ≤ 60) : zr (0) (255) (zgi σ 3 j) := h _ (List.mem_of_getElem? (i := 24) rfl) j hj.1 hj.2
theorem rM_25 (h : zSg sM σ) (j : Nat) (hj : 61 ≤ j ∧ j ≤ 61) : zr (0) (1) (zgi σ 3 j) := h _ (List.mem_of_getElem? (i := 25) rfl) j hj.1 hj.2
theorem rM_26 (h : zSg sM σ) (j : Nat) (hj : 62 ≤ j ∧ j ≤ 62) : zr (0) (255) (zgi σ 3 j) := h _ (List.mem_of_getElem? (i := 26) rfl) j hj.1 hj.2
theorem rM_27 (h : zSg sM σ) (j : Nat) (hj : 63 ≤ j ∧ j ≤ 63) : zr (0) (1) (zgi σ 3 j) := h _ (List.mem_of_getElem? (i := 27) rfl) j hj.1 hj.2
theorem rM_28 (h : zSg sM σ) (j : Nat) (hj : 65 ≤ j ∧ j ≤ 65) : zr (0) (255) (zgi σ 3 j) := h _ (List.mem_of_getElem? (i := 28) rfl) j hj.1 hj.2
theorem rM_29 (h : zSg sM σ) (j : Nat) (hj : 66 ≤ j ∧ j ≤ 66) : zr (0) (313) (zgi σ 3 j) := h _ (List.mem_of_getElem? (i := 29) rfl) j hj.1 hj.2
theorem rM_30 (h : zSg sM σ) (j : Nat) (hj : 67 ≤ j ∧ j ≤ 67) : zr (0) (227) (zgi σ 3 j) := h _ (List.mem_of_getElem? (i := 30) rfl) j hj.1 hj.2
theorem rM_31 (h : zSg sM σ) (j : Nat) (hj : 68 ≤ j ∧ j ≤ 68) : zr (0) (255) (zgi σ 3 j) := h _ (List.mem_of_getElem? (i := 31) rfl) j hj.1 hj.2
theorem rM_32 (h : zSg sM σ) (j : Nat) (hj : 69 ≤ j ∧ j ≤ 71) : zr (0) (1023) (zgi σ 3 j) := h _ (List.mem_of_getElem? (i := 32) rfl) j hj.1 hj.2
theorem rM_33 (h : zSg sM σ) (j : Nat) (hj : 78 ≤ j ∧ j ≤ 81) : zr (0) (15) (zgi σ 3 j) := h _ (List.mem_of_getElem? (i := 33) rfl) j hj.1 hj.2
theorem rM_34 (h : zSg sM σ) (j : Nat) (hj : 82 ≤ j ∧ j ≤ 82) : zr (0) (7) (zgi σ 3 j) := h _ (List.mem_of_getElem? (i := 34) rfl) j hj.1 hj.2
theorem rM_35 (h : zSg sM σ) (j : Nat) (hj : 85 ≤ j ∧ j ≤ 85) : zr (0) (65535) (zgi σ 3 j) := h _ (List.mem_of_getElem? (i := 35) rfl) j hj.1 hj.2
theorem rM_36 (h : zSg sM σ) (j : Nat) (hj : 86 ≤ j ∧ j ≤ 86) : zr (0) (7) (zgi σ 3 j) := h _ (List.mem_of_getElem? (i := 36) rfl) j hj.1 hj.2
theorem rM_37 (h : zSg sM σ) (j : Nat) (hj : 87 ≤ j ∧ j ≤ 87) : zr (0) (4096) (zgi σ 3 j) := h _ (List.mem_of_getElem? (i := 37) rfl) j hj.1 hj.2
theorem rM_38 (h : zSg sM σ) (j : Nat) (hj : 88 ≤ j ∧ j ≤ 88) : zr (0) (4095) (zgi σ 3 j) := h _ (List.mem_of_getElem? (i := 38) rfl) j hj.1 hj.2
theorem rM_39 (h : zSg sM σ) (j : Nat) (hj : 89 ≤ j ∧ j ≤ 89) : zr (0) (8) (zgi σ 3 j) := h _ (List.mem_of_getElem? (i := 39) rfl) j hj.1 hj.2
theorem rM_40 (h : zSg sM σ) (j : Nat) (hj : 98 ≤ j ∧ j ≤ 161) : zr (0) (255) (zgi σ 3 j) := h _ (List.mem_of_getElem? (i := 40) rfl) j hj.1 hj.2
theorem rM_41 (h : zSg sM σ) (j : Nat) (hj : 162 ≤ j ∧ j ≤ 162) : zr (0) (63) (zgi σ 3 j) := h _ (List.mem_of_getElem? (i := 41) rfl) j hj.1 hj.2
theorem rM_42 (h : zSg sM σ) (j : Nat) (hj : 163 ≤ j ∧ j ≤ 163) : zr (0) (3) (zgi σ 3 j) := h _ (List.mem_of_getElem? (i := 42) rfl) j hj.1 hj.2
theorem rM_43 (h : zSg sM σ) (j : Nat) (hj : 169 ≤ j ∧ j ≤ 169) : zr (0) (4096) (zgi σ 3 j) := h _ (List.mem_of_getElem? (i := 43) rfl) j hj.1 hj.2
theorem rM_44 (h : zSg sM σ) (j : Nat) (hj : 170 ≤ j ∧ j ≤ 170) : zr (0) (4095) (zgi σ 3 j) := h _ (List.mem_of_getElem? (i := 44) rfl) j hj.1 hj.2
theorem rM_45 (h : zSg sM σ) (j : Nat) (hj : 171 ≤ j ∧ j ≤ 171) : zr (0) (256) (zgi σ 3 j) := h _ (List.mem_of_getElem? (i := 45) rfl) j hj.1 hj.2
theorem rM_46 (h : zSg sM σ) (j : Nat) (hj : 0 ≤ j ∧ j ≤ 15) : zr (0) (255) (zgi σ 12 j) := h _ (List.mem_of_getElem? (i := 46) rfl) j hj.1 hj.2
theorem rM_47 (h : zSg sM σ) (j : Nat) (hj : 16 ≤ j ∧ j ≤ 20) : zr (0) (65535) (zgi σ 12 j) := h _ (List.mem_of_getElem? (i := 47) rfl) j hj.1 hj.2
theorem rM_48 (h : zSg sM σ) (j : Nat) (hj : 0 ≤ j ∧ j ≤ 20) : zr (0) (65535) (zgi σ 12 j) := h _ (List.mem_of_getElem? (i := 48) rfl) j hj.1 hj.2
theorem rM_49 (h : zSg sM σ) (j : Nat) (hj : 21 ≤ j ∧ j ≤ 22) : zr (0) (255) (zgi σ 12 j) := h _ (List.mem_of_getElem? (i := 49) rfl) j hj.1 hj.2
theorem rM_50 (h : zSg sM σ) (j : Nat) (hj : 23 ≤ j ∧ j ≤ 24) : zr (0) (1) (zgi σ 12 j) := h _ (List.mem_of_getElem? (i := 50) rfl) j hj.1 hj.2
theorem rM_51 (h : zSg sM σ) (j : Nat) (hj : 25 ≤ j ∧ j ≤ 25) : zr (0) (2) (zgi σ 12 j) := h _ (List.mem_of_getElem? (i := 51) rfl) j hj.1 hj.2
theorem rM_52 (h : zSg sM σ) (j : Nat) (hj : 26 ≤ j ∧ j ≤ 28) : zr (0) (1) (zgi σ 12 j) := h _ (List.mem_of_getElem? (i := 52) rfl) j hj.1 hj.2
theorem rM_53 (h : zSg sM σ) (j : Nat) (hj : 29 ≤ j ∧ j ≤ 35) : zr (0) (255) (zgi σ 12 j) := h _ (List.mem_of_getElem? (i := 53) rfl) j hj.1 hj.2
theorem rM_54 (h : zSg sM σ) (j : Nat) (hj : 36 ≤ j ∧ j ≤ 41) : zr (0) (255) (zgi σ 12 j) := h _ (List.mem_of_getElem? (i := 54) rfl) j hj.1 hj.2
theorem rM_55 (h : zSg sM σ) (j : Nat) (hj : 44 ≤ j ∧ j ≤ 46) : zr (0) (1) (zgi σ 12 j) := h _ (List.mem_of_getElem? (i := 55) rfl) j hj.1 hj.2
theorem rM_56 (h : zSg sM σ) (j : Nat) (hj : 47 ≤ j ∧ j ≤ 57) : zr (0) (255) (zgi σ 12 j) := h _ (List.mem_of_getElem? (i := 56) rfl) j hj.1 hj.2
theorem rM_57 (h : zSg sM σ) (j : Nat) (hj : 58 ≤ j ∧ j ≤ 58) : zr (0) (16383) (zgi σ 12 j) := h _ (List.mem_of_getElem? (i := 57) rfl) j hj.1 hj.2
theorem rM_58 (h : zSg sM σ) (j : Nat) (hj : 59 ≤ j ∧ j ≤ 59) : zr (0) (3) (zgi σ 12 j) := h _ (List.mem_of_getElem? (i := 58) rfl) j hj.1 hj.2
theorem rM_59 (h : zSg sM σ) (j : Nat) (hj : 60 ≤ j ∧ j ≤ 60) : zr (0) (255) (zgi σ 12 j) := h _ (List.mem_of_getElem? (i := 59) rfl) j hj.1 hj.2
theorem rM_60 (h : zSg sM σ) (j : Nat) (hj : 61 ≤ j ∧ j ≤ 61) : zr (0) (1) (zgi σ 12 j) := h _ (List.mem_of_getElem? (i := 60) rfl) j hj.1 hj.2
theorem rM_61 (h : zSg sM σ) (j : Nat) (hj : 62 ≤ j ∧ j ≤ 62) : zr (0) (255) (zgi σ 12 j) := h _ (List.mem_of_getElem? (i := 61) rfl) j hj.1 hj.2
theorem rM_62 (h : zSg sM σ) (j : Nat) (hj : 63 ≤ j ∧ j ≤ 63) : zr (0) (1) (zgi σ 12 j) := h _ (List.mem_of_getElem? (i := 62) rfl) j hj.1 hj.2
theorem rM_63 (h : zSg sM σ) (j : Nat) (hj : 65 ≤ j ∧ j ≤ 65) : zr (0) (255) (zgi σ 12 j) := h _ (List.mem_of_getElem? (i := 63) rfl) j hj.1 hj.2
theorem rM_64 (h : zSg sM σ) (j : Nat) (hj : 66 ≤ j ∧ j ≤ 66) : zr (0) (313) (zgi σ 12 j) := h _ (List.mem_of_getElem? (i := 64) rfl) j hj.1 hj.2
theorem rM_65 (h : zSg sM σ) (j : Nat) (hj : 67 ≤ j ∧ j ≤ 67) : zr (0) (227) (zgi σ 12 j) := h _ (List.mem_of_getElem? (i := 65) rfl) j hj.1 hj.2
theorem rM_66 (h : zSg sM σ) (j : Nat) (hj : 68 ≤ j ∧ j ≤ 68) : zr (0) (255) (zgi σ 12 j) := h _ (List.mem_of_getElem? (i := 66) rfl) j hj.1 hj.2
theorem rM_67 (h : zSg sM σ) (j : Nat) (hj : 69 ≤ j ∧ j ≤ 71) : zr (0) (1023) (zgi σ 12 j) := h _ (List.mem_of_getElem? (i := 67) rfl) j hj.1 hj.2
theorem rM_68 (h : zSg sM σ) (j : Nat) (hj : 78 ≤ j ∧ j ≤ 81) : zr (0) (15) (zgi σ 12 j) := h _ (List.mem_of_getElem? (i := 68) rfl) j hj.1 hj.2
theorem rM_69 (h : zSg sM σ) (j : Nat) (hj : 82 ≤ j ∧ j ≤ 82) : zr (0) (7) (zgi σ 12 j) := h _ (List.mem_of_getElem? (i := 69) rfl) j hj.1 hj.2
theorem rM_70 (h : zSg sM σ) (j : Nat) (hj : 85 ≤ j ∧ j ≤ 85) : zr (0) (65535) (zgi σ 12 j) := h _ (List.mem_of_getElem? (i := 70) rfl) j hj.1 hj.2
theorem rM_71 (h : zSg sM σ) (j : Nat) (hj : 86 ≤ j ∧ j ≤ 86) : zr (0) (7) (zgi σ 12 j) := h _ (List.mem_of_getElem? (i := 71) rfl) j hj.1 hj.2
theorem rM_72 (h : zSg sM σ) (j : Nat) (hj : 87 ≤ j ∧ j ≤ 87) : zr (0) (4096) (zgi σ 12 j) := h _ (List.mem_of_getElem? (i := 72) rfl) j hj.1 hj.2
theorem rM_73 (h : zSg sM σ) (j : Nat) (hj : 88 ≤ j ∧ j ≤ 88) : zr (0) (4095) (zgi σ 12 j) := h _ (List.mem_of_getElem? (i := 73) rfl) j hj.1 hj.2
theorem rM_74 (h : zSg sM σ) (j : Nat) (hj : 89 ≤ j ∧ j ≤ 89) : zr (0) (8) (zgi σ 12 j) := h _ (List.mem_of_getElem? (i := 74) rfl) j hj.1 hj.2
theorem rM_75 (h : zSg sM σ) (j : Nat) (hj : 98 ≤ j ∧ j ≤ 161) : zr (0) (255) (zgi σ 12 j) := h _ (List.mem_of_getElem? (i := 75) rfl) j hj.1 hj.2
theorem rM_76 (h : zSg sM σ) (j : Nat) (hj : 162 ≤ j ∧ j ≤ 162) : zr (0) (63) (zgi σ 12 j) := h _ (List.mem_of_getElem? (i := 76) rfl) j hj.1 hj.2
theorem rM_77 (h : zSg sM σ) (j : Nat) (hj : 163 ≤ j ∧ j ≤ 163) : zr (0) (3) (zgi σ 12 j) := h _ (List.mem_of_getElem? (i := 77) rfl) j hj.1 hj.2
theorem rM_78 (h : zSg sM σ) (j : Nat) (hj : 169 ≤ j ∧ j ≤ 169) : zr (0) (4096) (zgi σ 12 j) := h _ (List.mem_of_getElem? (i := 78) rfl) j hj.1 hj.2
theorem rM_79 (h : zSg sM σ) (j : Nat) (hj : 170 ≤ j ∧ j ≤ 170) : zr (0) (4095) (zgi σ 12 j) := h _ (List.mem_of_getElem? (i := 79) rfl) j hj.1 hj.2
theorem rM_80 (h : zSg sM σ) (j : Nat) (hj : 171 ≤ j ∧ j ≤ 171) : zr (0) (256) (zgi σ 12 j) := h _ (List.mem_of_getElem? (i := 80) rfl) j hj.1 hj.2
theorem xM_sp {lo hi : Int} (h : zSp zQM σ) (hr : zr lo hi (zgi σ 0 31)) (c : 0 < lo ∧ hi ≤ 17) : zr 16 17 (zgi σ 0 31) := by
  obtain ⟨r1, r2⟩ := hr
  unfold zgi at r1 r2 ⊢
  rcases h with h | h
  · have h : (σ.1 0 31).toInt = 0 := h
    exfalso; omega
  · have h : 16 ≤ (σ.1 0 31).toInt := h
    exact ⟨h, by omega⟩
theorem zEM.lv {x v : Int32} {lo hi : Int} (h : zEM l G σ) (t : zat 0 x) (hv : zr lo hi v) (c : 0 ≤ lo ∧ hi ≤ 127) : zEM l G (zsi σ 3 x.toNatClampNeg v) := h.lift (fun _ h1 => h1.lv t hv c)
theorem zEM.op {c : Int} {x v : Int32} (h : zEM l G σ) (t : zat c x) (q : 0 < c ∧ c < 6) : zEM l G (zsi σ 3 x.toNatClampNeg v) := h.lift (fun _ h1 => h1.op t q)
theorem zEM.wb {v : Int32} {lo hi : Int} (h : zEM l G σ) (hv : zr lo hi v) (c : 1 ≤ lo ∧ hi ≤ 16) : zEM l G (zsi σ 0 6 v) := h.lift (fun _ h1 => h1.wb hv c)
theorem zEM.wp {v : Int32} {lo hi a b : Int} (h : zEM l G σ) (hv : zr lo hi v) (hb : zr a b (zgi σ 0 6)) (c : 0 ≤ lo ∧ hi ≤ 3 ∧ 1 ≤ a) : zEM l G (zsi σ 0 7 v) := h.lift (fun _ h1 => h1.wp hv hb c)
theorem zEM.sp0 {v : Int32} {lo hi : Int} (h : zEM l G σ) (hv : zr lo hi v) (c : (decide (lo = 0 ∧ hi = 0) && zWs sM zZM zQM lo hi) = true) : zEM l G (zsi σ 0 31 v) := h.lift (fun _ h1 => h1.sp0 hv c)
theorem zEM.wle {k j : Nat} {v : Int64} (h : zEM l G σ) (a b : Nat) (hj : a ≤ j ∧ j ≤ b) (c : (zWzl zLM l k a b && Nat.ble zZM.length 100) = true) : zEM l G (zsl σ k j v) := by
  obtain ⟨G1, h1, g1⟩ := h
  obtain ⟨G2, h2, g2⟩ := zIV_el a b h1.1 hj c
  exact ⟨G2, ⟨h2, h1.2⟩, fun i hi => (g2 i hi).trans (g1 i hi)⟩
theorem zEM.c12 {j : Nat} (h : zEM l G σ) (hj : 0 ≤ j ∧ j ≤ 1047) (c : ((zWc sM [] zQM 3 12 && zWz zZM l 12 0 1047) && Nat.ble zZM.length 100) = true) : zEM l G (zsi σ 12 j (zgi σ 3 j)) := by
  obtain ⟨G1, h1, g1⟩ := h
  obtain ⟨G2, h2, g2⟩ := zIV_c1e 0 1047 hj h1.1 c
  obtain ⟨y1, ⟨y2, y3⟩, y4, y5⟩ := h1.2
  refine ⟨G2, ⟨h2, ?_, ⟨fun i hi => ?_, fun i hi => ?_⟩, fun i hi => ?_, fun i hi => ?_⟩, fun i hi => (g2 i hi).trans (g1 i hi)⟩
  · rw [zsi_off (by omega), zsi_off (by omega)]; exact y1
  · rw [zsi_off (by omega)]; exact y2 i hi
  · by_cases q : 172 + 6 * i = j
    · subst q; rw [zsi_ej]; exact y2 i hi
    · rw [zsi_off (by omega)]; exact y3 i hi
  · rw [zsi_off (by omega)]; exact y4 i hi
  · by_cases q : 281 + 3 * i = j
    · subst q; rw [zsi_ej]; exact y4 i hi
    · rw [zsi_off (by omega)]; exact y5 i hi
theorem zEM.c3 {j : Nat} (h : zEM l G σ) (hj : 0 ≤ j ∧ j ≤ 1047) (c : ((zWc sM [] zQM 12 3 && zWz zZM l 3 0 1047) && Nat.ble zZM.length 100) = true) : zEM l G (zsi σ 3 j (zgi σ 12 j)) := by
  obtain ⟨G1, h1, g1⟩ := h
  obtain ⟨G2, h2, g2⟩ := zIV_c1e 0 1047 hj h1.1 c
  obtain ⟨y1, ⟨y2, y3⟩, y4, y5⟩ := h1.2
  refine ⟨G2, ⟨h2, ?_, ⟨fun i hi => ?_, fun i hi => ?_⟩, fun i hi => ?_, fun i hi => ?_⟩, fun i hi => (g2 i hi).trans (g1 i hi)⟩
  · rw [zsi_off (by omega), zsi_off (by omega)]; exact y1
  · by_cases q : 172 + 6 * i = j
    · subst q; rw [zsi_ej]; exact y3 i hi
    · rw [zsi_off (by omega)]; exact y2 i hi
  · rw [zsi_off (by omega)]; exact y3 i hi
  · by_cases q : 281 + 3 * i = j
    · subst q; rw [zsi_ej]; exact y5 i hi
    · rw [zsi_off (by omega)]; exact y4 i hi
  · rw [zsi_off (by omega)]; exact y5 i hi
theorem zIM.lva {j : Nat} {v : Int32} {lo hi : Int} (h : zIM G σ) (hj : 172 ≤ j ∧ j ≤ 279) (hv : zr lo hi v) (c : 0 ≤ lo ∧ hi ≤ 127) : zIM G (zsi σ 3 j v) := by
  obtain ⟨y1, ⟨y2, y3⟩, y4, y5⟩ := h.2
  refine ⟨zIV_i 172 279 h.1 hj (zr_any (x := v)) (by decide +kernel), ?_, ⟨fun i hi => ?_, fun i hi => ?_⟩, fun i hi => ?_, fun i hi => ?_⟩
  · rw [zsi_off (by omega), zsi_off (by omega)]; exact y1
  · by_cases q : 172 + 6 * i = j
    · rw [q, zsi_ej]; exact zr_w hv c
    · rw [zsi_off (by omega)]; exact y2 i hi
  · rw [zsi_off (by omega)]; exact y3 i hi
  · rw [zsi_off (by omega)]; exact y4 i hi
  · rw [zsi_off (by omega)]; exact y5 i hi
theorem zIM.pla {j : Nat} {v : Int32} {lo hi : Int} (h : zIM G σ) (hj : 280 ≤ j ∧ j ≤ 1047) (hv : zr lo hi v) (c : 0 ≤ lo ∧ hi ≤ 1) : zIM G (zsi σ 3 j v) := by
  obtain ⟨y1, ⟨y2, y3⟩, y4, y5⟩ := h.2
  refine ⟨zIV_i 280 1047 h.1 hj (zr_any (x := v)) (by decide +kernel), ?_, ⟨fun i hi => ?_, fun i hi => ?_⟩, fun i hi => ?_, fun i hi => ?_⟩
  · rw [zsi_off (by omega), zsi_off (by omega)]; exact y1
  · rw [zsi_off (by omega)]; exact y2 i hi
  · rw [zsi_off (by omega)]; exact y3 i hi
  · by_cases q : 281 + 3 * i = j
    · rw [q, zsi_ej]; exact zr_w hv c
    · rw [zsi_off (by omega)]; exact y4 i hi
  · rw [zsi_off (by omega)]; exact y5 i hi
theorem zEM.lva {j : Nat} {v : Int32} {lo hi : Int} (h : zEM l G σ) (hj : 172 ≤ j ∧ j ≤ 279) (hv : zr lo hi v) (c : 0 ≤ lo ∧ hi ≤ 127) : zEM l G (zsi σ 3 j v) := h.lift (fun _ h1 => h1.lva hj hv c)
theorem zEM.pla {j : Nat} {v : Int32} {lo hi : Int} (h : zEM l G σ) (hj : 280 ≤ j ∧ j ≤ 1047) (hv : zr lo hi v) (c : 0 ≤ lo ∧ hi ≤ 1) : zEM l G (zsi σ 3 j v) := h.lift (fun _ h1 => h1.pla hj hv c)
theorem zIM.sh {j j3 : Nat} (h : zIM G σ) (hj : 280 ≤ j ∧ j3 = j + 3 ∧ j3 ≤ 1047) : zIM G (zsi σ 3 j (zgi σ 3 j3)) := by
  obtain ⟨y1, ⟨y2, y3⟩, y4, y5⟩ := h.2
  refine ⟨zIV_i 280 1047 h.1 (by omega) zr_any (by decide +kernel), ?_, ⟨fun i hi => ?_, fun i hi => ?_⟩, fun i hi => ?_, fun i hi => ?_⟩
  · rw [zsi_off (by omega), zsi_off (by omega)]; exact y1
  · rw [zsi_off (by omega)]; exact y2 i hi
  · rw [zsi_off (by omega)]; exact y3 i hi
  · by_cases q : 281 + 3 * i = j
    · have e := y4 (i + 1) (by omega)
      rw [show 281 + 3 * (i + 1) = j3 by omega] at e
      rw [q, zsi_ej]; exact e
    · rw [zsi_off (by omega)]; exact y4 i hi
  · rw [zsi_off (by omega)]; exact y5 i hi
end ZSM
theorem rM_lv {σ : zSt} {x : Int32} (h : zYM σ) (t : zat 0 x) : zr 0 127 (zgi σ 3 x.toNatClampNeg) := by
  obtain ⟨n, hn, e⟩ := t
  have ex : x.toNatClampNeg = 172 + 6 * n := by have : x.toNatClampNeg = x.toInt.toNat := rfl; omega
  rw [ex]; exact h.2.1.1 n hn
theorem rM_bk {σ : zSt} {lo hi : Int} (h : zYM σ) (hs : zSg sM σ) (hp : zr lo hi (zgi σ 0 7)) (c : 1 ≤ lo) : zr 1 16 (zgi σ 0 6) := by
  have hb := rM_3 hs 6 (by decide)
  obtain ⟨p1, p2⟩ := hp
  rcases h.1 with q | q
  · exfalso
    have : (zgi σ 0 7).toInt = 0 := q
    omega
  · exact ⟨q, hb.2⟩
theorem rM_g4 {G : Nat → Int} {σ : zSt} (h : zIM G σ) (g : 0 ≤ G 104 ∧ G 104 ≤ 1152921504606846976) : zrl 0 1152921504606846976 (zgl σ 4 4) := by
  have e : (σ.2 4 4).toInt = G 104 := h.fl 4 (4, 4) rfl
  exact ⟨by show 0 ≤ (σ.2 4 4).toInt; omega, by show (σ.2 4 4).toInt ≤ _; omega⟩
theorem z_odd64 {x : Int32} {a b : Int} (h : zr a b x) (q : zr 1 1 (zrem x 2)) (c : 0 ≤ a) : zr 1 63 (zrem x 64) := by
  have e2 := z_trem (y := 2) 2 (by decide) h ⟨c, by decide⟩
  have e6 := z_trem (y := 64) 64 (by decide) h ⟨c, by decide⟩
  have q1 := q.1
  rw [e2] at q1
  unfold zr; rw [e6]; omega
theorem zt11_r (j : Nat) : zr (0) (2137) (zt11 j) := by
  unfold zt11
  exact z_getD (P := fun x : Int32 => 0 ≤ x.toInt ∧ x.toInt ≤ 2137) (by decide +kernel) (by decide) j
theorem z_nat {x : Int32} {b : Int} (h : zr 0 b x) : x = Int32.ofNat x.toInt.toNat := by
  have h1 := h.1
  have h2 := (zr_any (x := x)).2
  apply Int32.toInt_inj.mp
  rw [Int32.toInt_ofNat_of_lt (by omega)]; omega
theorem z_m3 {x1 x2 v4 : Int32} (h1 : zr 0 7 x1) (h2 : zr 4 7 x2) (e : v4 = x1 >>> ((1 : Int32) &&& 31)) (q4 : ¬ x2 = 4) (q6 : ¬ x2 = 6) (q7 : ¬ x2 = 7) (q0 : ¬ zrem x1 2 = 0) (qa : ¬ v4 = 0) (qb : ¬ v4 = 2) : x2 = 5 ∧ (x1 = 3 ∨ x1 = 7) := by
  have k : ∀ i j : Fin 8, 4 ≤ j.val → ¬ Int32.ofNat j.val = 4 → ¬ Int32.ofNat j.val = 6 → ¬ Int32.ofNat j.val = 7 → ¬ zrem (Int32.ofNat i.val) 2 = 0 → ¬ (Int32.ofNat i.val) >>> ((1 : Int32) &&& 31) = 0 → ¬ (Int32.ofNat i.val) >>> ((1 : Int32) &&& 31) = 2 → Int32.ofNat j.val = 5 ∧ (Int32.ofNat i.val = 3 ∨ Int32.ofNat i.val = 7) := by decide +kernel
  have a1 := h1.2
  have a2 := h2.1
  have a3 := h2.2
  have a0 := h1.1
  have e1 := z_nat h1
  have e2 := z_nat (zr_w (lo := 0) (hi := 7) h2 (by decide))
  rw [e] at qa qb
  rw [e1] at q0 qa qb ⊢
  rw [e2] at q4 q6 q7 ⊢
  exact k ⟨x1.toInt.toNat, by omega⟩ ⟨x2.toInt.toNat, by omega⟩ (by show 4 ≤ x2.toInt.toNat; omega) q4 q6 q7 q0 qa qb
theorem z_m3b {x1 v1 v2 : Int32} (h : zr 0 255 x1) (e1 : v1 = (x1 >>> ((3 : Int32) &&& 31)) &&& 7) (e2 : v2 = x1 &&& 7) (q0 : ¬ x1 >>> ((6 : Int32) &&& 31) = 0) (q1 : ¬ x1 >>> ((6 : Int32) &&& 31) = 1) (q2 : ¬ x1 >>> ((6 : Int32) &&& 31) = 2) (n : ¬ x1 = 221 ∧ ¬ x1 = 253) : ¬ (v2 = 5 ∧ (v1 = 3 ∨ v1 = 7)) := by
  have k : ∀ i : Fin 256, ¬ (Int32.ofNat i.val) >>> ((6 : Int32) &&& 31) = 0 → ¬ (Int32.ofNat i.val) >>> ((6 : Int32) &&& 31) = 1 → ¬ (Int32.ofNat i.val) >>> ((6 : Int32) &&& 31) = 2 → (¬ Int32.ofNat i.val = 221 ∧ ¬ Int32.ofNat i.val = 253) → ¬ ((Int32.ofNat i.val) &&& 7 = 5 ∧ (((Int32.ofNat i.val) >>> ((3 : Int32) &&& 31)) &&& 7 = 3 ∨ ((Int32.ofNat i.val) >>> ((3 : Int32) &&& 31)) &&& 7 = 7)) := by decide +kernel
  have a1 := h.2
  have a0 := h.1
  have e := z_nat h
  rw [e1, e2]
  rw [e] at q0 q1 q2 n ⊢
  exact k ⟨x1.toInt.toNat, by omega⟩ q0 q1 q2 n
theorem z_l142 {v x : Int32} {M a b : Int} (e : v = 2 * x + 16) (h : zr a b x) (c : 8176 ≤ a ∧ b ≤ 32767) (hM : 65550 - x.toInt ≤ M) : 65550 - v.toInt < M := by
  have h := zr_w (lo := 8176) (hi := 32767) h c
  have k2 : zr 2 2 (2 : Int32) := zr_c (by decide)
  have k16 : zr 16 16 (16 : Int32) := zr_c (by decide)
  have e1 := z_tmul k2 h (by decide)
  have r1 := zr_mul (lo := 16352) (hi := 65534) k2 h (by decide)
  have e2 := z_tadd r1 k16 (by decide)
  rw [e1, show (2 : Int32).toInt = 2 from rfl, show (16 : Int32).toInt = 16 from rfl] at e2
  have b1 := h.1
  rw [e, e2]; omega
theorem zkC70_r (j : Nat) (h : j < 288) : zr (48) (102) (zkC 70 j) := by
  have k : ∀ i : Fin 288, 48 ≤ (zkC 70 i.val).toInt ∧ (zkC 70 i.val).toInt ≤ 102 := by decide +kernel
  exact k ⟨j, h⟩
theorem zok_within {α : Type} {σ : zSt} {a l h : Int64} {f : zSt → Int32 → Option α} {P : α → Prop} (k1 : l.toInt ≤ a.toInt → a.toInt ≤ h.toInt → zok (f σ 1) P) (k0 : (a.toInt < l.toInt ∨ h.toInt < a.toInt) → zok (f σ 0) P) : zok (zbi (fX12_within σ a l h) f) P := by
  unfold fX12_within
  by_cases q1 : lg_cmp a l < 0
  · rw [if_pos q1]; exact k0 (Or.inl (z_cmp_lt.mp q1))
  · rw [if_neg q1]
    by_cases q2 : 0 < lg_cmp a h
    · rw [if_pos q2]; exact k0 (Or.inr (z_cmp_gt.mp q2))
    · rw [if_neg q2]
      exact k1 (Int.not_lt.mp (fun r => q1 (z_cmp_lt.mpr r))) (Int.not_lt.mp (fun r => q2 (z_cmp_gt.mpr r)))
theorem z_wir {x : Int32} {l h : Int64} {a b c d : Int} (w1 : l.toInt ≤ x.toInt64.toInt) (w2 : x.toInt64.toInt ≤ h.toInt) (pl : zrl a b l) (ph : zrl c d h) : zr a d x := by
  rw [Int32.toInt_toInt64] at w1 w2
  exact ⟨Int.le_trans pl.1 w1, Int.le_trans w2 ph.2⟩
theorem zok_fails0 {α : Type} {σ : zSt} {c : Int32} {f : zSt → Int32 → Option α} {P : α → Prop} {I : zSt → Prop} (hi : I (zsi σ 0 0 0)) (k : ∀ σ1, σ1 = zsi σ 0 0 0 → I σ1 → zok (f σ1 0) P) : zok (zbi (fX12_fails σ 0 c) f) P := by
  unfold fX12_fails
  rw [if_pos rfl]
  exact k _ rfl hi
theorem zok_fails1 {α : Type} {σ : zSt} {c : Int32} {f : zSt → Int32 → Option α} {P : α → Prop} {I : zSt → Prop} (hi : I (zsi σ 0 0 c)) (k : ∀ σ1, σ1 = zsi σ 0 0 c → I σ1 → zok (f σ1 1) P) : zok (zbi (fX12_fails σ 1 c) f) P := by
  unfold fX12_fails
  rw [if_neg (by decide)]
  exact k _ rfl hi
theorem zok_isBat {α : Type} {σ : zSt} {x : Int32} {f : zSt → Int32 → Option α} {P : α → Prop} (k1 : zr 32768 49151 x → zok (f σ 1) P) (k0 : zok (f σ 0) P) : zok (zbi (fX12_isBattery σ x) f) P := by
  unfold fX12_isBattery
  have c1 : (32768 : Int32).toInt = 32768 := rfl
  have c2 : (49152 : Int32).toInt = 49152 := rfl
  by_cases q1 : zgi σ 0 7 = 1
  · rw [if_pos q1]
    show zok (zbi (if ((zgi σ 3 (32 : Int32).toNatClampNeg) &&& 8) = 0 then fX12_isBattery_37 σ else if x < 32768 then fX12_isBattery_37 σ else if 49152 ≤ x then fX12_isBattery_37 σ else fX12_isBattery_38 σ 1) f) P
    by_cases q2 : ((zgi σ 3 (32 : Int32).toNatClampNeg) &&& 8) = 0
    · rw [if_pos q2]; exact k0
    · rw [if_neg q2]
      by_cases q3 : x < 32768
      · rw [if_pos q3]; exact k0
      · rw [if_neg q3]
        by_cases q4 : 49152 ≤ x
        · rw [if_pos q4]; exact k0
        · rw [if_neg q4]
          have a1 := Int32.le_iff_toInt_le.mp (z_nlt q3)
          have a2 := Int32.lt_iff_toInt_lt.mp (z_nle q4)
          exact k1 ⟨by omega, by omega⟩
  · rw [if_neg q1]; exact k0
def zMtu (I : zSt → Prop) (b : Int) (r : zSt) : Prop := I r ∧ (zgi r 0 39).toInt ≤ b
def zMti (I : zSt → Prop) (b : Int) (Q : Int32 → Prop) (r : zSt × Int32) : Prop := I r.1 ∧ (zgi r.1 0 39).toInt ≤ b ∧ Q r.2
theorem zok_mu {α : Type} {o : Option zSt} {f : zSt → Option α} {I : zSt → Prop} {b : Int} {P : α → Prop} (h : zok o (zMtu I b)) (k : ∀ σ, I σ → (zgi σ 0 39).toInt ≤ b → zok (f σ) P) : zok (zbu o f) P := zok_bu h (fun σ q => k σ q.1 q.2)
theorem zok_mi {α : Type} {o : Option (zSt × Int32)} {f : zSt → Int32 → Option α} {I : zSt → Prop} {b : Int} {Q : Int32 → Prop} {P : α → Prop} (h : zok o (zMti I b Q)) (k : ∀ σ v, I σ → (zgi σ 0 39).toInt ≤ b → Q v → zok (f σ v) P) : zok (zbi o f) P := zok_bi h (fun σ v q => k σ v q.1 q.2.1 q.2.2)
theorem zok_smu {I : zSt → Prop} {b : Int} {σ : zSt} (hi : I σ) (h : (zgi σ 0 39).toInt ≤ b) : zok (some σ) (zMtu I b) := ⟨_, rfl, hi, h⟩
theorem zok_smi {I : zSt → Prop} {b : Int} {Q : Int32 → Prop} {σ : zSt} {v : Int32} (hi : I σ) (h : (zgi σ 0 39).toInt ≤ b) (hq : Q v) : zok (some (σ, v)) (zMti I b Q) := ⟨_, rfl, hi, h, hq⟩
theorem zok_wmu {o : Option zSt} {I : zSt → Prop} {b b1 : Int} (h : zok o (zMtu I b)) (c : b ≤ b1) : zok o (zMtu I b1) := zok_mono h (fun r q => ⟨q.1, Int.le_trans q.2 c⟩)
theorem zok_wmi {o : Option (zSt × Int32)} {I : zSt → Prop} {b b1 : Int} {Q : Int32 → Prop} (h : zok o (zMti I b Q)) (c : b ≤ b1) : zok o (zMti I b1 Q) := zok_mono h (fun r q => ⟨q.1, Int.le_trans q.2.1 c, q.2.2⟩)
theorem zok_pmu {o : Option zSt} {I : zSt → Prop} {b : Int} {σ : zSt} (hi : I σ) (c : (zgi σ 0 39).toInt ≤ b) (h : zok o (zPu σ)) : zok o (zMtu I b) := zok_mono h (fun r q => by cases q; exact ⟨hi, c⟩)
theorem zok_pmi {o : Option (zSt × Int32)} {I : zSt → Prop} {b : Int} {Q : Int32 → Prop} {σ : zSt} (hi : I σ) (c : (zgi σ 0 39).toInt ≤ b) (h : zok o (zPi σ Q)) : zok o (zMti I b Q) := zok_mono h (fun r q => by obtain ⟨q1, q2⟩ := q; cases q1; exact ⟨hi, c, q2⟩)
theorem z_k39 {σ σ1 : zSt} {k j : Nat} {v : Int32} (e : σ1 = zsi σ k j v) (c : ¬ (0 = k ∧ 39 = j)) : (zgi σ1 0 39).toInt = (zgi σ 0 39).toInt := by
  subst e
  unfold zgi
  rw [zsi_off c]
theorem z_kd {n : Nat} {l : List Nat} {d : Nat} (h : n ∈ l) (c : l.all (fun i => Nat.ble (zkL i) d) = true) : ((zkL n : Nat) : Int) ≤ (d : Int) := by
  rw [List.all_eq_true] at c
  exact Int.ofNat_le.mpr (Nat.le_of_ble_eq_true (c n h))
theorem zIM.wg {G : Nat → Int} {σ : zSt} {k j : Nat} {v : Int32} {lo hi : Int} (i : Nat) (h : zIM G σ) (hi100 : i < 100) (hz : ∀ n, n < zZM.length → (zZM[n]? = some (k, j) ↔ n = i)) (hv : zr lo hi v) (c : (zWi sM [] zQM k j j lo hi && zOM k j j) = true) : zIM (zset G i v.toInt) (zsi σ k j v) := by
  rw [Bool.and_eq_true] at c
  exact ⟨zIV_g i h.1 hi100 hz hv c.1, h.2.w ⟨Nat.le_refl _, Nat.le_refl _⟩ c.2⟩
theorem zIM.wgl {G : Nat → Int} {σ : zSt} {k j : Nat} {v : Int64} (i : Nat) (h : zIM G σ) (hz : ∀ n, n < zLM.length → (zLM[n]? = some (k, j) ↔ n = i)) : zIM (zset G (100 + i) v.toInt) (zsl σ k j v) := ⟨zIV_gl i h.1 (by decide) hz, h.2⟩
theorem zIM.g {G G1 : Nat → Int} {σ : zSt} (h : zIM G σ) (e : ∀ i, G1 i = G i) : zIM G1 σ := by
  have : G1 = G := funext e
  rw [this]; exact h
/-- the cell of a number of Z, of ZL -/
theorem zIM.at {G : Nat → Int} {σ : zSt} (h : zIM G σ) (i : Nat) {k j : Nat} (hz : zZM[i]? = some (k, j)) : (zgi σ k j).toInt = G i := h.fz i (k, j) hz
theorem zIM.atl {G : Nat → Int} {σ : zSt} (h : zIM G σ) (i : Nat) {k j : Nat} (hz : zLM[i]? = some (k, j)) : (zgl σ k j).toInt = G (100 + i) := h.fl i (k, j) hz
theorem rM_g5 {G : Nat → Int} {σ : zSt} (h : zIM G σ) (g : 1 ≤ G 5 ∧ G 5 ≤ 536870912) : zr 1 536870912 (zgi σ 3 (168 : Int32).toNatClampNeg) := by
  have e : (zgi σ 3 168).toInt = G 5 := h.at 5 rfl
  exact ⟨by show 1 ≤ (zgi σ 3 168).toInt; omega, by show (zgi σ 3 168).toInt ≤ _; omega⟩
def zln (G : Nat → Int) : Int := if G 1 = 1 then 313 else 262
theorem zln_b (G : Nat → Int) : 262 ≤ zln G ∧ zln G ≤ 313 := by unfold zln; split <;> omega
theorem zln_c {G G1 : Nat → Int} (h : G1 1 = G 1) : zln G1 = zln G := by unfold zln; rw [h]
theorem zset_id {G : Nat → Int} {i : Nat} : zset G i (G i) = G := by
  funext j
  unfold zset
  by_cases h : j = i
  · rw [if_pos h, h]
  · rw [if_neg h]
theorem zset_set {G : Nat → Int} {i : Nat} {a b : Int} : zset (zset G i a) i b = zset G i b := by
  funext j
  unfold zset
  by_cases h : j = i
  · rw [if_pos h, if_pos h]
  · rw [if_neg h, if_neg h, if_neg h]
theorem zset_com {G : Nat → Int} {i k : Nat} {a b : Int} (n : ¬ i = k) : zset (zset G i a) k b = zset (zset G k b) i a := by
  funext j
  unfold zset
  by_cases h : j = k
  · rw [if_pos h, if_neg (fun r => n (r.symm.trans h)), if_pos h]
  · rw [if_neg h]
    by_cases h1 : j = i
    · rw [if_pos h1, if_pos h1]
    · rw [if_neg h1, if_neg h1, if_neg h]
def zJ (b c : Int) : Prop := 16 * (b / 16) - 81 * (b / 81) ≤ 16 * c + 34
theorem zsi_two {σ σ1 : zSt} {k j : Nat} {a b : Int32} (e : σ1 = zsi σ k j a) : zsi σ1 k j b = zsi σ k j b := by
  subst e
  refine Prod.ext (funext fun k1 => funext fun j1 => ?_) rfl
  rw [zsi_at, zsi_at, zsi_at]
  by_cases h : k1 = k ∧ j1 = j
  · rw [if_pos h, if_pos h]
  · rw [if_neg h, if_neg h, if_neg h]
def zEnd (G : Nat → Int) : Nat → Int := if G 3 + 1 = zln G then zset (zset (zset G 3 (G 3 + 1)) 3 0) 101 (G 101 + 1) else zset G 3 (G 3 + 1)
def zEh (G : Nat → Int) : Prop := (0 ≤ G 3 ∧ G 3 < zln G) ∧ (0 ≤ G 101 ∧ G 101 ≤ 1125899906842624)
def zGJ (G : Nat → Int) : Prop := (0 ≤ G 100 ∧ G 100 ≤ 1125899906842624) ∧ (0 ≤ G 103 ∧ G 103 ≤ 1125899906842624) ∧ (0 ≤ G 104 ∧ G 104 ≤ 1125899906842624) ∧ (0 ≤ G 101 ∧ G 101 ≤ 1125899906842624) ∧ (0 ≤ G 3 ∧ G 3 < zln G) ∧ (0 ≤ G 4 ∧ G 4 ≤ 227) ∧ (0 ≤ G 5 ∧ G 5 ≤ 268435456) ∧ zJ (G 100) (G 5)
def zph (G : Nat → Int) : Int := 228 * ((if G 1 = 1 then 313 * G 101 else 262 * G 101) + G 3) + G 4
def zRel (G G1 : Nat → Int) (b : Int) : Prop := (4 ≤ b ∧ b ≤ 35) ∧ G1 100 = G 100 + b ∧ (G 104 ≤ G1 104 ∧ G1 104 ≤ G 104 + 1) ∧ (0 ≤ G1 5 ∧ G1 5 ≤ G 5 + 3) ∧ zJ (G1 100) (G1 5) ∧ (0 ≤ G1 3 ∧ G1 3 < zln G1) ∧ (0 ≤ G1 4 ∧ G1 4 ≤ 227) ∧ zph G1 = zph G + b ∧ (G 101 ≤ G1 101 ∧ G1 101 ≤ G 101 + 1) ∧ (∀ i, i ∈ [0, 1, 2, 6, 7, 8, 9, 102, 103, 105, 106] → G1 i = G i)
def zOnce (G : Nat → Int) (r : zSt) : Prop := ∃ G1 b, zIM G1 r ∧ zRel G G1 b
theorem z_s168 {G : Nat → Int} {σ : zSt} (h : zIM G σ) (g : 0 ≤ G 5 ∧ G 5 ≤ 536870912) : zIM (zset G 5 (G 5 + 1)) (zsi σ 3 (168 : Int32).toNatClampNeg ((zgi σ 3 (168 : Int32).toNatClampNeg) + 1)) := by
  have e : (zgi σ 3 (168 : Int32).toNatClampNeg).toInt = G 5 := h.at 5 (by decide)
  have c1 : (1 : Int32).toInt = 1 := rfl
  have t : (zgi σ 3 (168 : Int32).toNatClampNeg + 1).toInt = G 5 + 1 := by
    rw [z_tadd (a := 0) (b := 536870912) (x := zgi σ 3 (168 : Int32).toNatClampNeg) (y := 1) ⟨by omega, by omega⟩ (zr_c (lo := 1) (hi := 1) (x := 1) (by decide)) (by decide), e, c1]
  rw [← t]
  exact h.wg 5 (by decide) (by decide) zr_any (by decide +kernel)
theorem z_w44 {G : Nat → Int} {σ : zSt} (h : zIM G σ) (g : 0 ≤ G 104 ∧ G 104 ≤ 1125899906842624) : zIM (zset G 104 (G 104 + 1)) (zsl σ 4 (4 : Int32).toNatClampNeg ((zgl σ 4 (4 : Int32).toNatClampNeg) + 1)) := by
  have e : (zgl σ 4 (4 : Int32).toNatClampNeg).toInt = G 104 := h.atl 4 (by decide)
  have c1 : (1 : Int64).toInt = 1 := rfl
  have t : (zgl σ 4 (4 : Int32).toNatClampNeg + 1).toInt = G 104 + 1 := by
    rw [z_tladd (a := 0) (b := 1125899906842624) (x := zgl σ 4 (4 : Int32).toNatClampNeg) (y := 1) ⟨by omega, by omega⟩ (zrl_c (lo := 1) (hi := 1) (x := 1) (by decide)) (by decide), e, c1]
  rw [← t]
  exact h.wgl 4 (by decide)
theorem z_beat {G : Nat → Int} {σ : zSt} (h : zIM G σ) (g : 0 ≤ G 100 ∧ G 100 ≤ 2251799813685248) (c : Int64) (d : Int) (hc : c.toInt = d) (hd : 0 < d) : ((zgl σ 4 (0 : Int32).toNatClampNeg) / c).toInt = G 100 / d := by
  have e : (zgl σ 4 (0 : Int32).toNatClampNeg).toInt = G 100 := h.atl 0 (by decide)
  rw [z_tldiv (a := 0) (b := 2251799813685248) d hc (x := zgl σ 4 (0 : Int32).toNatClampNeg) ⟨by omega, by omega⟩ ⟨by decide, hd⟩, e]
def zMix (G : Nat → Int) (x5 : Int64) (r : zSt) : Prop := (x5.toInt = G 100 / 81 ∧ zIM G r) ∨ (x5.toInt + 1 = G 100 / 81 ∧ zIM (zset G 5 0) r)
def zWvs (G : Nat → Int) (x3 : Int64) (r : zSt) : Prop := ∃ w, (w = G 104 ∨ w = G 104 + 1) ∧ ((x3.toInt / 81 = G 100 / 81 ∧ zIM (zset G 104 w) r) ∨ (x3.toInt / 81 + 1 = G 100 / 81 ∧ zIM (zset (zset G 104 w) 5 0) r))
def zEnT (G : Nat → Int) (r : zSt) : Prop := ∃ w c, (w = G 104 ∨ w = G 104 + 1) ∧ (0 ≤ c ∧ c ≤ G 5 + 3) ∧ zJ (G 100) c ∧ zIM (zset (zset G 104 w) 5 c) r
