def sC : List zSeg := [(1, 2, 2, 0, 262656), (1, 3, 3, 0, 512), (1, 4, 4, 0, 262144), (1, 5, 5, 0, 16), (1, 7, 7, -1, 32752), (7, 4, 4, 6, 17), (7, 5, 5, 0, 65535), (40, 8, 8, 0, 8), (41, 8, 8, 0, 8), (10, 2, 2, 0, 32), (5, 3, 3, 0, 8), (13, 0, 262655, 0, 255), (14, 0, 262655, 0, 255), (15, 0, 8191, 0, 255), (16, 0, 8191, 0, 255), (17, 0, 32767, 0, 255), (18, 0, 32767, 0, 255), (19, 0, 3, 0, 255), (20, 0, 3, 0, 255), (21, 0, 16383, 0, 255), (22, 0, 16383, 0, 255), (36, 0, 15, 0, 255), (36, 16, 20, 0, 65535), (36, 21, 22, 0, 255), (36, 23, 24, 0, 1), (36, 25, 25, 0, 2), (36, 26, 28, 0, 1), (36, 0, 20, 0, 65535), (37, 0, 15, 0, 255), (37, 16, 20, 0, 65535), (37, 21, 22, 0, 255), (37, 23, 24, 0, 1), (37, 25, 25, 0, 2), (37, 26, 28, 0, 1), (37, 0, 20, 0, 65535), (23, 0, 10, 0, 255), (23, 11, 11, 0, 16383), (23, 12, 12, 0, 3), (23, 13, 13, 0, 255), (23, 14, 14, 0, 1), (23, 15, 15, 0, 255), (23, 19, 19, 0, 255), (23, 21, 21, 0, 227), (23, 26, 26, 0, 255), (23, 32, 95, 0, 255), (24, 0, 10, 0, 255), (24, 11, 11, 0, 16383), (24, 12, 12, 0, 3), (24, 13, 13, 0, 255), (24, 14, 14, 0, 1), (24, 15, 15, 0, 255), (24, 19, 19, 0, 255), (24, 21, 21, 0, 227), (24, 26, 26, 0, 255), (24, 32, 95, 0, 255), (34, 0, 6, 0, 255), (34, 10, 11, 0, 1), (35, 0, 6, 0, 255), (35, 10, 11, 0, 1), (30, 17, 17, 0, 7), (31, 17, 17, 0, 7), (32, 64, 64, 0, 3), (33, 64, 64, 0, 3)]
def zZC : List (Nat × Nat) := [(1, 2), (0, 11), (0, 0)]
def zLC : List (Nat × Nat) := []
def zQC : Nat × Nat × Int := (7, 4, 6)
def zIC (G : Nat → Int) (σ : zSt) : Prop := zIV sC zZC zLC zQC G σ
def zPC (σ : zSt) : Prop := zSg sC σ ∧ zSp zQC σ
def zEC (l : List Nat) (G : Nat → Int) (σ : zSt) : Prop := ∃ G1, zIC G1 σ ∧ ∀ i, ¬ i ∈ l → G1 i = G i
section ZSC
variable {G : Nat → Int} {σ : zSt} {l : List Nat}
theorem zIC.sg (h : zIC G σ) : zSg sC σ := h.1
theorem zIC.sp (h : zIC G σ) : zSp zQC σ := h.2.2.2
theorem zIC.fz (h : zIC G σ) : zFz zZC G σ := h.2.1
theorem zIC.fl (h : zIC G σ) : zFl zLC G σ := h.2.2.1
theorem zIC.P (h : zIC G σ) : zPC σ := ⟨h.sg, h.sp⟩
theorem zPC.sg (h : zPC σ) : zSg sC σ := h.1
theorem zPC.sp (h : zPC σ) : zSp zQC σ := h.2
theorem zIC.E (h : zIC G σ) : zEC l G σ := ⟨G, h, fun _ _ => rfl⟩
theorem zEC.sg (h : zEC l G σ) : zSg sC σ := by obtain ⟨G1, h1, _⟩ := h; exact h1.sg
theorem zEC.sp (h : zEC l G σ) : zSp zQC σ := by obtain ⟨G1, h1, _⟩ := h; exact h1.sp
theorem zEC.P (h : zEC l G σ) : zPC σ := by obtain ⟨G1, h1, _⟩ := h; exact h1.P
theorem zIC.wi {k j : Nat} {v : Int32} {lo hi : Int} (h : zIC G σ) (a b : Nat) (hj : a ≤ j ∧ j ≤ b) (hv : zr lo hi v) (c : zWi sC zZC zQC k a b lo hi = true) : zIC G (zsi σ k j v) := zIV_i a b h hj hv c
theorem zIC.wk {k j : Nat} {v : Int32} (h : zIC G σ) (c : zWk sC zZC zQC k = true) : zIC G (zsi σ k j v) := zIV_k h c
theorem zIC.wl {k j : Nat} {v : Int64} (h : zIC G σ) (a b : Nat) (hj : a ≤ j ∧ j ≤ b) (c : zLC.all (fun z => !Nat.beq z.1 k || (Nat.blt b z.2 || Nat.blt z.2 a)) = true) : zIC G (zsl σ k j v) := zIV_l a b h hj c
theorem zIC.wc {k0 k1 sp dp n : Nat} (h : zIC G σ) (c : zWc sC zZC zQC k0 k1 = true) (e0 : sp = 0) (e1 : dp = 0) : zIC G (zcpi σ k0 k1 sp dp n) := zIV_c h c e0 e1
theorem zIC.wcl {k0 k1 sp dp n : Nat} (h : zIC G σ) (c : zLC.all (fun z => !Nat.beq z.1 k1) = true) : zIC G (zcpl σ k0 k1 sp dp n) := zIV_cl h c
theorem zIC.sp0 {v : Int32} {lo hi : Int} (h : zIC G σ) (hv : zr lo hi v) (c : (decide (lo = 6 ∧ hi = 6) && zWs sC zZC zQC lo hi) = true) : zIC G (zsi σ 7 4 v) := by
  rw [Bool.and_eq_true] at c
  have e := of_decide_eq_true c.1
  have h1 := hv.1
  have h2 := hv.2
  exact zIV_s h hv c.2 (Or.inl (by show v.toInt = 6; omega))
theorem zIC.sp1 {v : Int32} {lo hi : Int} (h : zIC G σ) (hv : zr lo hi v) (c : (decide (16 ≤ lo) && zWs sC zZC zQC lo hi) = true) : zIC G (zsi σ 7 4 v) := by
  rw [Bool.and_eq_true] at c
  have e := of_decide_eq_true c.1
  have h1 := hv.1
  exact zIV_s h hv c.2 (Or.inr (by omega))
theorem zIC.we {k j : Nat} {v : Int32} {lo hi : Int} (h : zIC G σ) (a b : Nat) (hj : a ≤ j ∧ j ≤ b) (hv : zr lo hi v) (c : zWe sC zZC zQC l k a b lo hi = true) : zEC l G (zsi σ k j v) := zIV_e a b h hj hv c
theorem zEC.lift {σ1 : zSt} (h : zEC l G σ) (k : ∀ G1, zIC G1 σ → zIC G1 σ1) : zEC l G σ1 := by obtain ⟨G1, h1, g1⟩ := h; exact ⟨G1, k G1 h1, g1⟩
theorem zEC.wi {k j : Nat} {v : Int32} {lo hi : Int} (h : zEC l G σ) (a b : Nat) (hj : a ≤ j ∧ j ≤ b) (hv : zr lo hi v) (c : zWe sC zZC zQC l k a b lo hi = true) : zEC l G (zsi σ k j v) := by
  obtain ⟨G1, h1, g1⟩ := h
  obtain ⟨G2, h2, g2⟩ := h1.we a b hj hv c
  exact ⟨G2, h2, fun i hi => (g2 i hi).trans (g1 i hi)⟩
theorem zEC.wk {k j : Nat} {v : Int32} (h : zEC l G σ) (c : zWk sC zZC zQC k = true) : zEC l G (zsi σ k j v) := h.lift (fun _ h1 => h1.wk c)
theorem zEC.wl {k j : Nat} {v : Int64} (h : zEC l G σ) (a b : Nat) (hj : a ≤ j ∧ j ≤ b) (c : zLC.all (fun z => !Nat.beq z.1 k || (Nat.blt b z.2 || Nat.blt z.2 a)) = true) : zEC l G (zsl σ k j v) := h.lift (fun _ h1 => h1.wl a b hj c)
theorem zEC.sub {l1 : List Nat} (h : zEC l1 G σ) (c : l1.all (fun i => l.contains i) = true) : zEC l G σ := by
  obtain ⟨G1, h1, g1⟩ := h
  rw [List.all_eq_true] at c
  exact ⟨G1, h1, fun i hi => g1 i (fun r => hi (List.contains_iff_mem.mp (c i r)))⟩
theorem zEC.upi {o : Option (zSt × Int32)} {Q : Int32 → Prop} (h : zEC l G σ) (k : ∀ G1, zIC G1 σ → zok o (zAi (zIC G1) Q)) : zok o (zAi (zEC l G) Q) := by
  obtain ⟨G1, h1, g1⟩ := h
  exact zok_mono (k G1 h1) (fun r q => ⟨⟨G1, q.1, g1⟩, q.2⟩)
theorem zEC.uEi {o : Option (zSt × Int32)} {Q : Int32 → Prop} {l1 : List Nat} (h : zEC l G σ) (c : l1.all (fun i => l.contains i) = true) (k : ∀ G1, zEC l1 G1 σ → zok o (zAi (zEC l1 G1) Q)) : zok o (zAi (zEC l G) Q) := by
  obtain ⟨G1, h1, g1⟩ := h
  rw [List.all_eq_true] at c
  have k1 : ∀ x, zEC l1 G1 x → zEC l G x := fun x hx => by
    obtain ⟨G2, h2, g2⟩ := hx
    exact ⟨G2, h2, fun i hi => (g2 i (fun r => hi (List.contains_iff_mem.mp (c i r)))).trans (g1 i hi)⟩
  exact zok_mono (k G1 h1.E) (fun r q => ⟨k1 _ q.1, q.2⟩)
theorem zEC.upl {o : Option (zSt × Int64)} {Q : Int64 → Prop} (h : zEC l G σ) (k : ∀ G1, zIC G1 σ → zok o (zAL (zIC G1) Q)) : zok o (zAL (zEC l G) Q) := by
  obtain ⟨G1, h1, g1⟩ := h
  exact zok_mono (k G1 h1) (fun r q => ⟨⟨G1, q.1, g1⟩, q.2⟩)
theorem zEC.uEl {o : Option (zSt × Int64)} {Q : Int64 → Prop} {l1 : List Nat} (h : zEC l G σ) (c : l1.all (fun i => l.contains i) = true) (k : ∀ G1, zEC l1 G1 σ → zok o (zAL (zEC l1 G1) Q)) : zok o (zAL (zEC l G) Q) := by
  obtain ⟨G1, h1, g1⟩ := h
  rw [List.all_eq_true] at c
  have k1 : ∀ x, zEC l1 G1 x → zEC l G x := fun x hx => by
    obtain ⟨G2, h2, g2⟩ := hx
    exact ⟨G2, h2, fun i hi => (g2 i (fun r => hi (List.contains_iff_mem.mp (c i r)))).trans (g1 i hi)⟩
  exact zok_mono (k G1 h1.E) (fun r q => ⟨k1 _ q.1, q.2⟩)
theorem zEC.upu {o : Option zSt} (h : zEC l G σ) (k : ∀ G1, zIC G1 σ → zok o (zIC G1)) : zok o (zEC l G) := by
  obtain ⟨G1, h1, g1⟩ := h
  exact zok_mono (k G1 h1) (fun r q => ⟨G1, q, g1⟩)
theorem zEC.uEu {o : Option zSt} {l1 : List Nat} (h : zEC l G σ) (c : l1.all (fun i => l.contains i) = true) (k : ∀ G1, zEC l1 G1 σ → zok o (zEC l1 G1)) : zok o (zEC l G) := by
  obtain ⟨G1, h1, g1⟩ := h
  rw [List.all_eq_true] at c
  have k1 : ∀ x, zEC l1 G1 x → zEC l G x := fun x hx => by
    obtain ⟨G2, h2, g2⟩ := hx
    exact ⟨G2, h2, fun i hi => (g2 i (fun r => hi (List.contains_iff_mem.mp (c i r)))).trans (g1 i hi)⟩
  exact zok_mono (k G1 h1.E) (fun r q => k1 _ q)
theorem zEC.upR {α : Type} {g : α → zSt} {o : Option α} (h : zEC l G σ) (k : ∀ G1, zIC G1 σ → zok o (fun r => zIC G1 (g r))) : zok o (fun r => zEC l G (g r)) := by
  obtain ⟨G1, h1, g1⟩ := h
  exact zok_mono (k G1 h1) (fun r q => ⟨G1, q, g1⟩)
theorem zEC.upTi {o : Option zRi} {ks : List Nat} (h : zEC l G σ) (k : ∀ G1, zIC G1 σ → zok o (zTi (zIC G1) ks)) : zok o (zTi (zEC l G) ks) := by
  obtain ⟨G1, h1, g1⟩ := h
  exact zok_mono (k G1 h1) (fun r q => ⟨⟨G1, q.1, g1⟩, q.2⟩)
theorem zEC.upTl {o : Option zRl} {ks : List Nat} (h : zEC l G σ) (k : ∀ G1, zIC G1 σ → zok o (zTl (zIC G1) ks)) : zok o (zTl (zEC l G) ks) := by
  obtain ⟨G1, h1, g1⟩ := h
  exact zok_mono (k G1 h1) (fun r q => ⟨⟨G1, q.1, g1⟩, q.2⟩)
theorem zEC.upTu {o : Option zRu} {ks : List Nat} (h : zEC l G σ) (k : ∀ G1, zIC G1 σ → zok o (zTu (zIC G1) ks)) : zok o (zTu (zEC l G) ks) := by
  obtain ⟨G1, h1, g1⟩ := h
  exact zok_mono (k G1 h1) (fun r q => ⟨⟨G1, q.1, g1⟩, q.2⟩)
theorem rC_0 (h : zSg sC σ) (j : Nat) (hj : 2 ≤ j ∧ j ≤ 2) : zr (0) (262656) (zgi σ 1 j) := h _ (List.mem_of_getElem? (i := 0) rfl) j hj.1 hj.2
theorem rC_1 (h : zSg sC σ) (j : Nat) (hj : 3 ≤ j ∧ j ≤ 3) : zr (0) (512) (zgi σ 1 j) := h _ (List.mem_of_getElem? (i := 1) rfl) j hj.1 hj.2
theorem rC_2 (h : zSg sC σ) (j : Nat) (hj : 4 ≤ j ∧ j ≤ 4) : zr (0) (262144) (zgi σ 1 j) := h _ (List.mem_of_getElem? (i := 2) rfl) j hj.1 hj.2
theorem rC_3 (h : zSg sC σ) (j : Nat) (hj : 5 ≤ j ∧ j ≤ 5) : zr (0) (16) (zgi σ 1 j) := h _ (List.mem_of_getElem? (i := 3) rfl) j hj.1 hj.2
theorem rC_4 (h : zSg sC σ) (j : Nat) (hj : 7 ≤ j ∧ j ≤ 7) : zr (-1) (32752) (zgi σ 1 j) := h _ (List.mem_of_getElem? (i := 4) rfl) j hj.1 hj.2
theorem rC_5 (h : zSg sC σ) (j : Nat) (hj : 4 ≤ j ∧ j ≤ 4) : zr (6) (17) (zgi σ 7 j) := h _ (List.mem_of_getElem? (i := 5) rfl) j hj.1 hj.2
theorem rC_6 (h : zSg sC σ) (j : Nat) (hj : 5 ≤ j ∧ j ≤ 5) : zr (0) (65535) (zgi σ 7 j) := h _ (List.mem_of_getElem? (i := 6) rfl) j hj.1 hj.2
theorem rC_7 (h : zSg sC σ) (j : Nat) (hj : 8 ≤ j ∧ j ≤ 8) : zr (0) (8) (zgi σ 40 j) := h _ (List.mem_of_getElem? (i := 7) rfl) j hj.1 hj.2
theorem rC_8 (h : zSg sC σ) (j : Nat) (hj : 8 ≤ j ∧ j ≤ 8) : zr (0) (8) (zgi σ 41 j) := h _ (List.mem_of_getElem? (i := 8) rfl) j hj.1 hj.2
theorem rC_9 (h : zSg sC σ) (j : Nat) (hj : 2 ≤ j ∧ j ≤ 2) : zr (0) (32) (zgi σ 10 j) := h _ (List.mem_of_getElem? (i := 9) rfl) j hj.1 hj.2
theorem rC_10 (h : zSg sC σ) (j : Nat) (hj : 3 ≤ j ∧ j ≤ 3) : zr (0) (8) (zgi σ 5 j) := h _ (List.mem_of_getElem? (i := 10) rfl) j hj.1 hj.2
theorem rC_11 (h : zSg sC σ) (j : Nat) (hj : 0 ≤ j ∧ j ≤ 262655) : zr (0) (255) (zgi σ 13 j) := h _ (List.mem_of_getElem? (i := 11) rfl) j hj.1 hj.2
theorem rC_12 (h : zSg sC σ) (j : Nat) (hj : 0 ≤ j ∧ j ≤ 262655) : zr (0) (255) (zgi σ 14 j) := h _ (List.mem_of_getElem? (i := 12) rfl) j hj.1 hj.2
theorem rC_13 (h : zSg sC σ) (j : Nat) (hj : 0 ≤ j ∧ j ≤ 8191) : zr (0) (255) (zgi σ 15 j) := h _ (List.mem_of_getElem? (i := 13) rfl) j hj.1 hj.2
theorem rC_14 (h : zSg sC σ) (j : Nat) (hj : 0 ≤ j ∧ j ≤ 8191) : zr (0) (255) (zgi σ 16 j) := h _ (List.mem_of_getElem? (i := 14) rfl) j hj.1 hj.2
theorem rC_15 (h : zSg sC σ) (j : Nat) (hj : 0 ≤ j ∧ j ≤ 32767) : zr (0) (255) (zgi σ 17 j) := h _ (List.mem_of_getElem? (i := 15) rfl) j hj.1 hj.2
theorem rC_16 (h : zSg sC σ) (j : Nat) (hj : 0 ≤ j ∧ j ≤ 32767) : zr (0) (255) (zgi σ 18 j) := h _ (List.mem_of_getElem? (i := 16) rfl) j hj.1 hj.2
theorem rC_17 (h : zSg sC σ) (j : Nat) (hj : 0 ≤ j ∧ j ≤ 3) : zr (0) (255) (zgi σ 19 j) := h _ (List.mem_of_getElem? (i := 17) rfl) j hj.1 hj.2
theorem rC_18 (h : zSg sC σ) (j : Nat) (hj : 0 ≤ j ∧ j ≤ 3) : zr (0) (255) (zgi σ 20 j) := h _ (List.mem_of_getElem? (i := 18) rfl) j hj.1 hj.2
theorem rC_19 (h : zSg sC σ) (j : Nat) (hj : 0 ≤ j ∧ j ≤ 16383) : zr (0) (255) (zgi σ 21 j) := h _ (List.mem_of_getElem? (i := 19) rfl) j hj.1 hj.2
theorem rC_20 (h : zSg sC σ) (j : Nat) (hj : 0 ≤ j ∧ j ≤ 16383) : zr (0) (255) (zgi σ 22 j) := h _ (List.mem_of_getElem? (i := 20) rfl) j hj.1 hj.2
theorem rC_21 (h : zSg sC σ) (j : Nat) (hj : 0 ≤ j ∧ j ≤ 15) : zr (0) (255) (zgi σ 36 j) := h _ (List.mem_of_getElem? (i := 21) rfl) j hj.1 hj.2
theorem rC_22 (h : zSg sC σ) (j : Nat) (hj : 16 ≤ j ∧ j ≤ 20) : zr (0) (65535) (zgi σ 36 j) := h _ (List.mem_of_getElem? (i := 22) rfl) j hj.1 hj.2
theorem rC_23 (h : zSg sC σ) (j : Nat) (hj : 21 ≤ j ∧ j ≤ 22) : zr (0) (255) (zgi σ 36 j) := h _ (List.mem_of_getElem? (i := 23) rfl) j hj.1 hj.2
theorem rC_24 (h : zSg sC σ) (j : Nat) (hj : 23 ≤ j ∧ j ≤ 24) : zr (0) (1) (zgi σ 36 j) := h _ (List.mem_of_getElem? (i := 24) rfl) j hj.1 hj.2
theorem rC_25 (h : zSg sC σ) (j : Nat) (hj : 25 ≤ j ∧ j ≤ 25) : zr (0) (2) (zgi σ 36 j) := h _ (List.mem_of_getElem? (i := 25) rfl) j hj.1 hj.2
theorem rC_26 (h : zSg sC σ) (j : Nat) (hj : 26 ≤ j ∧ j ≤ 28) : zr (0) (1) (zgi σ 36 j) := h _ (List.mem_of_getElem? (i := 26) rfl) j hj.1 hj.2
theorem rC_27 (h : zSg sC σ) (j : Nat) (hj : 0 ≤ j ∧ j ≤ 20) : zr (0) (65535) (zgi σ 36 j) := h _ (List.mem_of_getElem? (i := 27) rfl) j hj.1 hj.2
theorem rC_28 (h : zSg sC σ) (j : Nat) (hj : 0 ≤ j ∧ j ≤ 15) : zr (0) (255) (zgi σ 37 j) := h _ (List.mem_of_getElem? (i := 28) rfl) j hj.1 hj.2
theorem rC_29 (h : zSg sC σ) (j : Nat) (hj : 16 ≤ j ∧ j ≤ 20) : zr (0) (65535) (zgi σ 37 j) := h _ (List.mem_of_getElem? (i := 29) rfl) j hj.1 hj.2
theorem rC_30 (h : zSg sC σ) (j : Nat) (hj : 21 ≤ j ∧ j ≤ 22) : zr (0) (255) (zgi σ 37 j) := h _ (List.mem_of_getElem? (i := 30) rfl) j hj.1 hj.2
theorem rC_31 (h : zSg sC σ) (j : Nat) (hj : 23 ≤ j ∧ j ≤ 24) : zr (0) (1) (zgi σ 37 j) := h _ (List.mem_of_getElem? (i := 31) rfl) j hj.1 hj.2
theorem rC_32 (h : zSg sC σ) (j : Nat) (hj : 25 ≤ j ∧ j ≤ 25) : zr (0) (2) (zgi σ 37 j) := h _ (List.mem_of_getElem? (i := 32) rfl) j hj.1 hj.2
theorem rC_33 (h : zSg sC σ) (j : Nat) (hj : 26 ≤ j ∧ j ≤ 28) : zr (0) (1) (zgi σ 37 j) := h _ (List.mem_of_getElem? (i := 33) rfl) j hj.1 hj.2
theorem rC_34 (h : zSg sC σ) (j : Nat) (hj : 0 ≤ j ∧ j ≤ 20) : zr (0) (65535) (zgi σ 37 j) := h _ (List.mem_of_getElem? (i := 34) rfl) j hj.1 hj.2
theorem rC_35 (h : zSg sC σ) (j : Nat) (hj : 0 ≤ j ∧ j ≤ 10) : zr (0) (255) (zgi σ 23 j) := h _ (List.mem_of_getElem? (i := 35) rfl) j hj.1 hj.2
theorem rC_36 (h : zSg sC σ) (j : Nat) (hj : 11 ≤ j ∧ j ≤ 11) : zr (0) (16383) (zgi σ 23 j) := h _ (List.mem_of_getElem? (i := 36) rfl) j hj.1 hj.2
theorem rC_37 (h : zSg sC σ) (j : Nat) (hj : 12 ≤ j ∧ j ≤ 12) : zr (0) (3) (zgi σ 23 j) := h _ (List.mem_of_getElem? (i := 37) rfl) j hj.1 hj.2
theorem rC_38 (h : zSg sC σ) (j : Nat) (hj : 13 ≤ j ∧ j ≤ 13) : zr (0) (255) (zgi σ 23 j) := h _ (List.mem_of_getElem? (i := 38) rfl) j hj.1 hj.2
theorem rC_39 (h : zSg sC σ) (j : Nat) (hj : 14 ≤ j ∧ j ≤ 14) : zr (0) (1) (zgi σ 23 j) := h _ (List.mem_of_getElem? (i := 39) rfl) j hj.1 hj.2
theorem rC_40 (h : zSg sC σ) (j : Nat) (hj : 15 ≤ j ∧ j ≤ 15) : zr (0) (255) (zgi σ 23 j) := h _ (List.mem_of_getElem? (i := 40) rfl) j hj.1 hj.2
theorem rC_41 (h : zSg sC σ) (j : Nat) (hj : 19 ≤ j ∧ j ≤ 19) : zr (0) (255) (zgi σ 23 j) := h _ (List.mem_of_getElem? (i := 41) rfl) j hj.1 hj.2
theorem rC_42 (h : zSg sC σ) (j : Nat) (hj : 21 ≤ j ∧ j ≤ 21) : zr (0) (227) (zgi σ 23 j) := h _ (List.mem_of_getElem? (i := 42) rfl) j hj.1 hj.2
theorem rC_43 (h : zSg sC σ) (j : Nat) (hj : 26 ≤ j ∧ j ≤ 26) : zr (0) (255) (zgi σ 23 j) := h _ (List.mem_of_getElem? (i := 43) rfl) j hj.1 hj.2
theorem rC_44 (h : zSg sC σ) (j : Nat) (hj : 32 ≤ j ∧ j ≤ 95) : zr (0) (255) (zgi σ 23 j) := h _ (List.mem_of_getElem? (i := 44) rfl) j hj.1 hj.2
theorem rC_45 (h : zSg sC σ) (j : Nat) (hj : 0 ≤ j ∧ j ≤ 10) : zr (0) (255) (zgi σ 24 j) := h _ (List.mem_of_getElem? (i := 45) rfl) j hj.1 hj.2
theorem rC_46 (h : zSg sC σ) (j : Nat) (hj : 11 ≤ j ∧ j ≤ 11) : zr (0) (16383) (zgi σ 24 j) := h _ (List.mem_of_getElem? (i := 46) rfl) j hj.1 hj.2
theorem rC_47 (h : zSg sC σ) (j : Nat) (hj : 12 ≤ j ∧ j ≤ 12) : zr (0) (3) (zgi σ 24 j) := h _ (List.mem_of_getElem? (i := 47) rfl) j hj.1 hj.2
theorem rC_48 (h : zSg sC σ) (j : Nat) (hj : 13 ≤ j ∧ j ≤ 13) : zr (0) (255) (zgi σ 24 j) := h _ (List.mem_of_getElem? (i := 48) rfl) j hj.1 hj.2
theorem rC_49 (h : zSg sC σ) (j : Nat) (hj : 14 ≤ j ∧ j ≤ 14) : zr (0) (1) (zgi σ 24 j) := h _ (List.mem_of_getElem? (i := 49) rfl) j hj.1 hj.2
theorem rC_50 (h : zSg sC σ) (j : Nat) (hj : 15 ≤ j ∧ j ≤ 15) : zr (0) (255) (zgi σ 24 j) := h _ (List.mem_of_getElem? (i := 50) rfl) j hj.1 hj.2
theorem rC_51 (h : zSg sC σ) (j : Nat) (hj : 19 ≤ j ∧ j ≤ 19) : zr (0) (255) (zgi σ 24 j) := h _ (List.mem_of_getElem? (i := 51) rfl) j hj.1 hj.2
theorem rC_52 (h : zSg sC σ) (j : Nat) (hj : 21 ≤ j ∧ j ≤ 21) : zr (0) (227) (zgi σ 24 j) := h _ (List.mem_of_getElem? (i := 52) rfl) j hj.1 hj.2
theorem rC_53 (h : zSg sC σ) (j : Nat) (hj : 26 ≤ j ∧ j ≤ 26) : zr (0) (255) (zgi σ 24 j) := h _ (List.mem_of_getElem? (i := 53) rfl) j hj.1 hj.2
theorem rC_54 (h : zSg sC σ) (j : Nat) (hj : 32 ≤ j ∧ j ≤ 95) : zr (0) (255) (zgi σ 24 j) := h _ (List.mem_of_getElem? (i := 54) rfl) j hj.1 hj.2
theorem rC_55 (h : zSg sC σ) (j : Nat) (hj : 0 ≤ j ∧ j ≤ 6) : zr (0) (255) (zgi σ 34 j) := h _ (List.mem_of_getElem? (i := 55) rfl) j hj.1 hj.2
theorem rC_56 (h : zSg sC σ) (j : Nat) (hj : 10 ≤ j ∧ j ≤ 11) : zr (0) (1) (zgi σ 34 j) := h _ (List.mem_of_getElem? (i := 56) rfl) j hj.1 hj.2
theorem rC_57 (h : zSg sC σ) (j : Nat) (hj : 0 ≤ j ∧ j ≤ 6) : zr (0) (255) (zgi σ 35 j) := h _ (List.mem_of_getElem? (i := 57) rfl) j hj.1 hj.2
theorem rC_58 (h : zSg sC σ) (j : Nat) (hj : 10 ≤ j ∧ j ≤ 11) : zr (0) (1) (zgi σ 35 j) := h _ (List.mem_of_getElem? (i := 58) rfl) j hj.1 hj.2
theorem rC_59 (h : zSg sC σ) (j : Nat) (hj : 17 ≤ j ∧ j ≤ 17) : zr (0) (7) (zgi σ 30 j) := h _ (List.mem_of_getElem? (i := 59) rfl) j hj.1 hj.2
theorem rC_60 (h : zSg sC σ) (j : Nat) (hj : 17 ≤ j ∧ j ≤ 17) : zr (0) (7) (zgi σ 31 j) := h _ (List.mem_of_getElem? (i := 60) rfl) j hj.1 hj.2
theorem rC_61 (h : zSg sC σ) (j : Nat) (hj : 64 ≤ j ∧ j ≤ 64) : zr (0) (3) (zgi σ 32 j) := h _ (List.mem_of_getElem? (i := 61) rfl) j hj.1 hj.2
theorem rC_62 (h : zSg sC σ) (j : Nat) (hj : 64 ≤ j ∧ j ≤ 64) : zr (0) (3) (zgi σ 33 j) := h _ (List.mem_of_getElem? (i := 62) rfl) j hj.1 hj.2
theorem xC_sp {lo hi : Int} (h : zSp zQC σ) (hr : zr lo hi (zgi σ 7 4)) (c : 6 < lo ∧ hi ≤ 17) : zr 16 17 (zgi σ 7 4) := by
  obtain ⟨r1, r2⟩ := hr
  unfold zgi at r1 r2 ⊢
  rcases h with h | h
  · have h : (σ.1 7 4).toInt = 6 := h
    exfalso; omega
  · have h : 16 ≤ (σ.1 7 4).toInt := h
    exact ⟨h, by omega⟩
end ZSC
theorem rC_tp {σ : zSt} {x : Int32} (h : zSg sC σ) (j : Nat) (hj : j < 262656) : zr 0 255 (zgi σ (ztp x) j) := by
  unfold ztp
  split
  · exact rC_11 h j ⟨Nat.zero_le _, by omega⟩
  · exact rC_12 h j ⟨Nat.zero_le _, by omega⟩
theorem zIC.tp {G : Nat → Int} {σ : zSt} {x v : Int32} {j : Nat} {lo hi : Int} (h : zIC G σ) (hv : zr lo hi v) (c : 0 ≤ lo ∧ hi ≤ 255) : zIC G (zsi σ (ztp x) j v) := by
  have hv := zr_w (lo := 0) (hi := 255) hv c
  unfold ztp
  split
  · exact zIV_u h hv (by decide +kernel)
  · exact zIV_u h hv (by decide +kernel)
theorem zEC.tp {G : Nat → Int} {σ : zSt} {l : List Nat} {x v : Int32} {j : Nat} {lo hi : Int} (h : zEC l G σ) (hv : zr lo hi v) (c : 0 ≤ lo ∧ hi ≤ 255) : zEC l G (zsi σ (ztp x) j v) := h.lift (fun _ h1 => h1.tp hv c)
theorem s_rangeCheck {σ : zSt} {x0 x1 x2 : Int32} {a b c d e f : Int} (h0 : zr a b x0) (h1 : zr c d x1) (h2 : zr e f x2) (q : d ≤ e ∧ 0 ≤ c ∧ f ≤ a) : zok (fJ7_rangeCheck_23922 σ x0 x1 x2) (zPu σ) := by
  obtain ⟨a1, a2⟩ := h0
  obtain ⟨b1, b2⟩ := h1
  obtain ⟨c1, c2⟩ := h2
  have z0 : (0 : Int32).toInt = 0 := rfl
  unfold fJ7_rangeCheck_23922
  rw [if_pos (Int32.le_iff_toInt_le.mpr (by omega)), if_pos (Int32.le_iff_toInt_le.mpr (by omega)), if_pos (Int32.le_iff_toInt_le.mpr (by omega))]
  exact zok_spu
theorem z_ef {σ : zSt} {x1 x4 : Int32} (h : zSg sC σ) (hx4 : zr 0 7 x4) (q1 : ¬ ((zgi σ 10 2) - x4) ≤ x1) (q2 : ¬ x1 < 0) : zin (x1 + x4) 32 = true := by
  have hl := rC_9 h 2 (by decide)
  have e := z_tsub hl hx4 (by decide)
  have a := Int32.lt_iff_toInt_lt.mp (z_nle q1)
  have b := Int32.le_iff_toInt_le.mp (z_nlt q2)
  have e0 : (0 : Int32).toInt = 0 := rfl
  rw [e] at a
  have hx1 : zr 0 32 x1 := ⟨by omega, by have := hl.2; have := hx4.1; omega⟩
  have e2 := z_tadd hx1 hx4 (by decide)
  refine zin_ok (lo := (x1 + x4).toInt) (hi := (x1 + x4).toInt) ⟨Int.le_refl _, Int.le_refl _⟩ ⟨?_, ?_⟩
  · rw [e2]; have := hx4.1; omega
  · rw [e2]; have := hl.2; omega
theorem zt1_r (j : Nat) : zr (0) (32752) (zt1 j) := z_getD (P := zr 0 32752) (fun x h => by simp only [List.mem_cons, List.not_mem_nil, or_false] at h; rcases h with rfl | rfl | rfl <;> exact zr_c (by decide)) (zr_c (by decide)) j
theorem z_m8 {x : Int32} (h : zr (8192) (262656) x) (q : zr 0 0 (zrem x 8192)) : zr (8192) (262144) x := by
  have e := z_trem (y := 8192) 8192 (by decide) h (by decide)
  have a := q.1
  have b := q.2
  have h1 := h.1
  have h2 := h.2
  rw [e] at a b
  exact ⟨h1, by omega⟩
