def sZ : List zSeg := [(1, 2, 2, 0, 262656), (1, 3, 3, 0, 512), (1, 4, 4, 0, 262144), (1, 5, 5, 0, 16), (1, 7, 7, -1, 32752), (7, 5, 5, 0, 65535), (40, 8, 8, 0, 8), (41, 8, 8, 0, 8), (10, 2, 2, 0, 32), (5, 3, 3, 0, 8), (13, 0, 262655, 0, 255), (14, 0, 262655, 0, 255), (15, 0, 8191, 0, 255), (16, 0, 8191, 0, 255), (17, 0, 32767, 0, 255), (18, 0, 32767, 0, 255), (19, 0, 3, 0, 255), (20, 0, 3, 0, 255), (21, 0, 16383, 0, 255), (22, 0, 16383, 0, 255), (36, 0, 15, 0, 255), (36, 16, 20, 0, 65535), (36, 21, 22, 0, 255), (36, 23, 24, 0, 1), (36, 25, 25, 0, 2), (36, 26, 28, 0, 1), (36, 0, 20, 0, 65535), (37, 0, 15, 0, 255), (37, 16, 20, 0, 65535), (37, 21, 22, 0, 255), (37, 23, 24, 0, 1), (37, 25, 25, 0, 2), (37, 26, 28, 0, 1), (37, 0, 20, 0, 65535), (23, 0, 10, 0, 255), (23, 11, 11, 0, 16383), (23, 12, 12, 0, 3), (23, 13, 13, 0, 255), (23, 14, 14, 0, 1), (23, 15, 15, 0, 255), (23, 19, 19, 0, 255), (23, 21, 21, 0, 227), (23, 26, 26, 0, 255), (23, 32, 95, 0, 255), (24, 0, 10, 0, 255), (24, 11, 11, 0, 16383), (24, 12, 12, 0, 3), (24, 13, 13, 0, 255), (24, 14, 14, 0, 1), (24, 15, 15, 0, 255), (24, 19, 19, 0, 255), (24, 21, 21, 0, 227), (24, 26, 26, 0, 255), (24, 32, 95, 0, 255), (34, 0, 6, 0, 255), (34, 10, 11, 0, 1), (35, 0, 6, 0, 255), (35, 10, 11, 0, 1), (30, 17, 17, 0, 7), (31, 17, 17, 0, 7), (32, 64, 64, 0, 3), (33, 64, 64, 0, 3)]
def zZZ : List (Nat × Nat) := []
def zLZ : List (Nat × Nat) := []
def zQZ : Nat × Nat × Int := (7, 999, 0)
def zIZ (G : Nat → Int) (σ : zSt) : Prop := zIV sZ zZZ zLZ zQZ G σ
def zPZ (σ : zSt) : Prop := zSg sZ σ ∧ zSp zQZ σ
def zEZ (l : List Nat) (G : Nat → Int) (σ : zSt) : Prop := ∃ G1, zIZ G1 σ ∧ ∀ i, ¬ i ∈ l → G1 i = G i
section ZSZ
variable {G : Nat → Int} {σ : zSt} {l : List Nat}
theorem zIZ.sg (h : zIZ G σ) : zSg sZ σ := h.1
theorem zIZ.sp (h : zIZ G σ) : zSp zQZ σ := h.2.2.2
theorem zIZ.fz (h : zIZ G σ) : zFz zZZ G σ := h.2.1
theorem zIZ.fl (h : zIZ G σ) : zFl zLZ G σ := h.2.2.1
theorem zIZ.P (h : zIZ G σ) : zPZ σ := ⟨h.sg, h.sp⟩
theorem zPZ.sg (h : zPZ σ) : zSg sZ σ := h.1
theorem zPZ.sp (h : zPZ σ) : zSp zQZ σ := h.2
theorem zIZ.E (h : zIZ G σ) : zEZ l G σ := ⟨G, h, fun _ _ => rfl⟩
theorem zEZ.sg (h : zEZ l G σ) : zSg sZ σ := by obtain ⟨G1, h1, _⟩ := h; exact h1.sg
theorem zEZ.sp (h : zEZ l G σ) : zSp zQZ σ := by obtain ⟨G1, h1, _⟩ := h; exact h1.sp
theorem zEZ.P (h : zEZ l G σ) : zPZ σ := by obtain ⟨G1, h1, _⟩ := h; exact h1.P
theorem zIZ.wi {k j : Nat} {v : Int32} {lo hi : Int} (h : zIZ G σ) (a b : Nat) (hj : a ≤ j ∧ j ≤ b) (hv : zr lo hi v) (c : zWi sZ zZZ zQZ k a b lo hi = true) : zIZ G (zsi σ k j v) := zIV_i a b h hj hv c
theorem zIZ.wk {k j : Nat} {v : Int32} (h : zIZ G σ) (c : zWk sZ zZZ zQZ k = true) : zIZ G (zsi σ k j v) := zIV_k h c
theorem zIZ.wl {k j : Nat} {v : Int64} (h : zIZ G σ) (a b : Nat) (hj : a ≤ j ∧ j ≤ b) (c : zLZ.all (fun z => !Nat.beq z.1 k || (Nat.blt b z.2 || Nat.blt z.2 a)) = true) : zIZ G (zsl σ k j v) := zIV_l a b h hj c
theorem zIZ.wc {k0 k1 sp dp n : Nat} (h : zIZ G σ) (c : zWc sZ zZZ zQZ k0 k1 = true) (e0 : sp = 0) (e1 : dp = 0) : zIZ G (zcpi σ k0 k1 sp dp n) := zIV_c h c e0 e1
theorem zIZ.wcl {k0 k1 sp dp n : Nat} (h : zIZ G σ) (c : zLZ.all (fun z => !Nat.beq z.1 k1) = true) : zIZ G (zcpl σ k0 k1 sp dp n) := zIV_cl h c
theorem zIZ.sp0 {v : Int32} {lo hi : Int} (h : zIZ G σ) (hv : zr lo hi v) (c : (decide (lo = 0 ∧ hi = 0) && zWs sZ zZZ zQZ lo hi) = true) : zIZ G (zsi σ 7 999 v) := by
  rw [Bool.and_eq_true] at c
  have e := of_decide_eq_true c.1
  have h1 := hv.1
  have h2 := hv.2
  exact zIV_s h hv c.2 (Or.inl (by show v.toInt = 0; omega))
theorem zIZ.sp1 {v : Int32} {lo hi : Int} (h : zIZ G σ) (hv : zr lo hi v) (c : (decide (16 ≤ lo) && zWs sZ zZZ zQZ lo hi) = true) : zIZ G (zsi σ 7 999 v) := by
  rw [Bool.and_eq_true] at c
  have e := of_decide_eq_true c.1
  have h1 := hv.1
  exact zIV_s h hv c.2 (Or.inr (by omega))
theorem zIZ.we {k j : Nat} {v : Int32} {lo hi : Int} (h : zIZ G σ) (a b : Nat) (hj : a ≤ j ∧ j ≤ b) (hv : zr lo hi v) (c : zWe sZ zZZ zQZ l k a b lo hi = true) : zEZ l G (zsi σ k j v) := zIV_e a b h hj hv c
theorem zEZ.lift {σ1 : zSt} (h : zEZ l G σ) (k : ∀ G1, zIZ G1 σ → zIZ G1 σ1) : zEZ l G σ1 := by obtain ⟨G1, h1, g1⟩ := h; exact ⟨G1, k G1 h1, g1⟩
theorem zEZ.wi {k j : Nat} {v : Int32} {lo hi : Int} (h : zEZ l G σ) (a b : Nat) (hj : a ≤ j ∧ j ≤ b) (hv : zr lo hi v) (c : zWe sZ zZZ zQZ l k a b lo hi = true) : zEZ l G (zsi σ k j v) := by
  obtain ⟨G1, h1, g1⟩ := h
  obtain ⟨G2, h2, g2⟩ := h1.we a b hj hv c
  exact ⟨G2, h2, fun i hi => (g2 i hi).trans (g1 i hi)⟩
theorem zEZ.wk {k j : Nat} {v : Int32} (h : zEZ l G σ) (c : zWk sZ zZZ zQZ k = true) : zEZ l G (zsi σ k j v) := h.lift (fun _ h1 => h1.wk c)
theorem zEZ.wl {k j : Nat} {v : Int64} (h : zEZ l G σ) (a b : Nat) (hj : a ≤ j ∧ j ≤ b) (c : zLZ.all (fun z => !Nat.beq z.1 k || (Nat.blt b z.2 || Nat.blt z.2 a)) = true) : zEZ l G (zsl σ k j v) := h.lift (fun _ h1 => h1.wl a b hj c)
theorem zEZ.sub {l1 : List Nat} (h : zEZ l1 G σ) (c : l1.all (fun i => l.contains i) = true) : zEZ l G σ := by
  obtain ⟨G1, h1, g1⟩ := h
  rw [List.all_eq_true] at c
  exact ⟨G1, h1, fun i hi => g1 i (fun r => hi (List.contains_iff_mem.mp (c i r)))⟩
theorem zEZ.upi {o : Option (zSt × Int32)} {Q : Int32 → Prop} (h : zEZ l G σ) (k : ∀ G1, zIZ G1 σ → zok o (zAi (zIZ G1) Q)) : zok o (zAi (zEZ l G) Q) := by
  obtain ⟨G1, h1, g1⟩ := h
  exact zok_mono (k G1 h1) (fun r q => ⟨⟨G1, q.1, g1⟩, q.2⟩)
theorem zEZ.uEi {o : Option (zSt × Int32)} {Q : Int32 → Prop} {l1 : List Nat} (h : zEZ l G σ) (c : l1.all (fun i => l.contains i) = true) (k : ∀ G1, zEZ l1 G1 σ → zok o (zAi (zEZ l1 G1) Q)) : zok o (zAi (zEZ l G) Q) := by
  obtain ⟨G1, h1, g1⟩ := h
  rw [List.all_eq_true] at c
  have k1 : ∀ x, zEZ l1 G1 x → zEZ l G x := fun x hx => by
    obtain ⟨G2, h2, g2⟩ := hx
    exact ⟨G2, h2, fun i hi => (g2 i (fun r => hi (List.contains_iff_mem.mp (c i r)))).trans (g1 i hi)⟩
  exact zok_mono (k G1 h1.E) (fun r q => ⟨k1 _ q.1, q.2⟩)
theorem zEZ.upl {o : Option (zSt × Int64)} {Q : Int64 → Prop} (h : zEZ l G σ) (k : ∀ G1, zIZ G1 σ → zok o (zAL (zIZ G1) Q)) : zok o (zAL (zEZ l G) Q) := by
  obtain ⟨G1, h1, g1⟩ := h
  exact zok_mono (k G1 h1) (fun r q => ⟨⟨G1, q.1, g1⟩, q.2⟩)
theorem zEZ.uEl {o : Option (zSt × Int64)} {Q : Int64 → Prop} {l1 : List Nat} (h : zEZ l G σ) (c : l1.all (fun i => l.contains i) = true) (k : ∀ G1, zEZ l1 G1 σ → zok o (zAL (zEZ l1 G1) Q)) : zok o (zAL (zEZ l G) Q) := by
  obtain ⟨G1, h1, g1⟩ := h
  rw [List.all_eq_true] at c
  have k1 : ∀ x, zEZ l1 G1 x → zEZ l G x := fun x hx => by
    obtain ⟨G2, h2, g2⟩ := hx
    exact ⟨G2, h2, fun i hi => (g2 i (fun r => hi (List.contains_iff_mem.mp (c i r)))).trans (g1 i hi)⟩
  exact zok_mono (k G1 h1.E) (fun r q => ⟨k1 _ q.1, q.2⟩)
theorem zEZ.upu {o : Option zSt} (h : zEZ l G σ) (k : ∀ G1, zIZ G1 σ → zok o (zIZ G1)) : zok o (zEZ l G) := by
  obtain ⟨G1, h1, g1⟩ := h
  exact zok_mono (k G1 h1) (fun r q => ⟨G1, q, g1⟩)
theorem zEZ.uEu {o : Option zSt} {l1 : List Nat} (h : zEZ l G σ) (c : l1.all (fun i => l.contains i) = true) (k : ∀ G1, zEZ l1 G1 σ → zok o (zEZ l1 G1)) : zok o (zEZ l G) := by
  obtain ⟨G1, h1, g1⟩ := h
  rw [List.all_eq_true] at c
  have k1 : ∀ x, zEZ l1 G1 x → zEZ l G x := fun x hx => by
    obtain ⟨G2, h2, g2⟩ := hx
    exact ⟨G2, h2, fun i hi => (g2 i (fun r => hi (List.contains_iff_mem.mp (c i r)))).trans (g1 i hi)⟩
  exact zok_mono (k G1 h1.E) (fun r q => k1 _ q)
theorem zEZ.upR {α : Type} {g : α → zSt} {o : Option α} (h : zEZ l G σ) (k : ∀ G1, zIZ G1 σ → zok o (fun r => zIZ G1 (g r))) : zok o (fun r => zEZ l G (g r)) := by
  obtain ⟨G1, h1, g1⟩ := h
  exact zok_mono (k G1 h1) (fun r q => ⟨G1, q, g1⟩)
theorem zEZ.upTi {o : Option zRi} {ks : List Nat} (h : zEZ l G σ) (k : ∀ G1, zIZ G1 σ → zok o (zTi (zIZ G1) ks)) : zok o (zTi (zEZ l G) ks) := by
  obtain ⟨G1, h1, g1⟩ := h
  exact zok_mono (k G1 h1) (fun r q => ⟨⟨G1, q.1, g1⟩, q.2⟩)
theorem zEZ.upTl {o : Option zRl} {ks : List Nat} (h : zEZ l G σ) (k : ∀ G1, zIZ G1 σ → zok o (zTl (zIZ G1) ks)) : zok o (zTl (zEZ l G) ks) := by
  obtain ⟨G1, h1, g1⟩ := h
  exact zok_mono (k G1 h1) (fun r q => ⟨⟨G1, q.1, g1⟩, q.2⟩)
theorem zEZ.upTu {o : Option zRu} {ks : List Nat} (h : zEZ l G σ) (k : ∀ G1, zIZ G1 σ → zok o (zTu (zIZ G1) ks)) : zok o (zTu (zEZ l G) ks) := by
  obtain ⟨G1, h1, g1⟩ := h
  exact zok_mono (k G1 h1) (fun r q => ⟨⟨G1, q.1, g1⟩, q.2⟩)
theorem rZ_0 (h : zSg sZ σ) (j : Nat) (hj : 2 ≤ j ∧ j ≤ 2) : zr (0) (262656) (zgi σ 1 j) := h _ (List.mem_of_getElem? (i := 0) rfl) j hj.1 hj.2
theorem rZ_1 (h : zSg sZ σ) (j : Nat) (hj : 3 ≤ j ∧ j ≤ 3) : zr (0) (512) (zgi σ 1 j) := h _ (List.mem_of_getElem? (i := 1) rfl) j hj.1 hj.2
theorem rZ_2 (h : zSg sZ σ) (j : Nat) (hj : 4 ≤ j ∧ j ≤ 4) : zr (0) (262144) (zgi σ 1 j) := h _ (List.mem_of_getElem? (i := 2) rfl) j hj.1 hj.2
theorem rZ_3 (h : zSg sZ σ) (j : Nat) (hj : 5 ≤ j ∧ j ≤ 5) : zr (0) (16) (zgi σ 1 j) := h _ (List.mem_of_getElem? (i := 3) rfl) j hj.1 hj.2
theorem rZ_4 (h : zSg sZ σ) (j : Nat) (hj : 7 ≤ j ∧ j ≤ 7) : zr (-1) (32752) (zgi σ 1 j) := h _ (List.mem_of_getElem? (i := 4) rfl) j hj.1 hj.2
theorem rZ_5 (h : zSg sZ σ) (j : Nat) (hj : 5 ≤ j ∧ j ≤ 5) : zr (0) (65535) (zgi σ 7 j) := h _ (List.mem_of_getElem? (i := 5) rfl) j hj.1 hj.2
theorem rZ_6 (h : zSg sZ σ) (j : Nat) (hj : 8 ≤ j ∧ j ≤ 8) : zr (0) (8) (zgi σ 40 j) := h _ (List.mem_of_getElem? (i := 6) rfl) j hj.1 hj.2
theorem rZ_7 (h : zSg sZ σ) (j : Nat) (hj : 8 ≤ j ∧ j ≤ 8) : zr (0) (8) (zgi σ 41 j) := h _ (List.mem_of_getElem? (i := 7) rfl) j hj.1 hj.2
theorem rZ_8 (h : zSg sZ σ) (j : Nat) (hj : 2 ≤ j ∧ j ≤ 2) : zr (0) (32) (zgi σ 10 j) := h _ (List.mem_of_getElem? (i := 8) rfl) j hj.1 hj.2
theorem rZ_9 (h : zSg sZ σ) (j : Nat) (hj : 3 ≤ j ∧ j ≤ 3) : zr (0) (8) (zgi σ 5 j) := h _ (List.mem_of_getElem? (i := 9) rfl) j hj.1 hj.2
theorem rZ_10 (h : zSg sZ σ) (j : Nat) (hj : 0 ≤ j ∧ j ≤ 262655) : zr (0) (255) (zgi σ 13 j) := h _ (List.mem_of_getElem? (i := 10) rfl) j hj.1 hj.2
theorem rZ_11 (h : zSg sZ σ) (j : Nat) (hj : 0 ≤ j ∧ j ≤ 262655) : zr (0) (255) (zgi σ 14 j) := h _ (List.mem_of_getElem? (i := 11) rfl) j hj.1 hj.2
theorem rZ_12 (h : zSg sZ σ) (j : Nat) (hj : 0 ≤ j ∧ j ≤ 8191) : zr (0) (255) (zgi σ 15 j) := h _ (List.mem_of_getElem? (i := 12) rfl) j hj.1 hj.2
theorem rZ_13 (h : zSg sZ σ) (j : Nat) (hj : 0 ≤ j ∧ j ≤ 8191) : zr (0) (255) (zgi σ 16 j) := h _ (List.mem_of_getElem? (i := 13) rfl) j hj.1 hj.2
theorem rZ_14 (h : zSg sZ σ) (j : Nat) (hj : 0 ≤ j ∧ j ≤ 32767) : zr (0) (255) (zgi σ 17 j) := h _ (List.mem_of_getElem? (i := 14) rfl) j hj.1 hj.2
theorem rZ_15 (h : zSg sZ σ) (j : Nat) (hj : 0 ≤ j ∧ j ≤ 32767) : zr (0) (255) (zgi σ 18 j) := h _ (List.mem_of_getElem? (i := 15) rfl) j hj.1 hj.2
theorem rZ_16 (h : zSg sZ σ) (j : Nat) (hj : 0 ≤ j ∧ j ≤ 3) : zr (0) (255) (zgi σ 19 j) := h _ (List.mem_of_getElem? (i := 16) rfl) j hj.1 hj.2
theorem rZ_17 (h : zSg sZ σ) (j : Nat) (hj : 0 ≤ j ∧ j ≤ 3) : zr (0) (255) (zgi σ 20 j) := h _ (List.mem_of_getElem? (i := 17) rfl) j hj.1 hj.2
theorem rZ_18 (h : zSg sZ σ) (j : Nat) (hj : 0 ≤ j ∧ j ≤ 16383) : zr (0) (255) (zgi σ 21 j) := h _ (List.mem_of_getElem? (i := 18) rfl) j hj.1 hj.2
theorem rZ_19 (h : zSg sZ σ) (j : Nat) (hj : 0 ≤ j ∧ j ≤ 16383) : zr (0) (255) (zgi σ 22 j) := h _ (List.mem_of_getElem? (i := 19) rfl) j hj.1 hj.2
theorem rZ_20 (h : zSg sZ σ) (j : Nat) (hj : 0 ≤ j ∧ j ≤ 15) : zr (0) (255) (zgi σ 36 j) := h _ (List.mem_of_getElem? (i := 20) rfl) j hj.1 hj.2
theorem rZ_21 (h : zSg sZ σ) (j : Nat) (hj : 16 ≤ j ∧ j ≤ 20) : zr (0) (65535) (zgi σ 36 j) := h _ (List.mem_of_getElem? (i := 21) rfl) j hj.1 hj.2
theorem rZ_22 (h : zSg sZ σ) (j : Nat) (hj : 21 ≤ j ∧ j ≤ 22) : zr (0) (255) (zgi σ 36 j) := h _ (List.mem_of_getElem? (i := 22) rfl) j hj.1 hj.2
theorem rZ_23 (h : zSg sZ σ) (j : Nat) (hj : 23 ≤ j ∧ j ≤ 24) : zr (0) (1) (zgi σ 36 j) := h _ (List.mem_of_getElem? (i := 23) rfl) j hj.1 hj.2
theorem rZ_24 (h : zSg sZ σ) (j : Nat) (hj : 25 ≤ j ∧ j ≤ 25) : zr (0) (2) (zgi σ 36 j) := h _ (List.mem_of_getElem? (i := 24) rfl) j hj.1 hj.2
theorem rZ_25 (h : zSg sZ σ) (j : Nat) (hj : 26 ≤ j ∧ j ≤ 28) : zr (0) (1) (zgi σ 36 j) := h _ (List.mem_of_getElem? (i := 25) rfl) j hj.1 hj.2
theorem rZ_26 (h : zSg sZ σ) (j : Nat) (hj : 0 ≤ j ∧ j ≤ 20) : zr (0) (65535) (zgi σ 36 j) := h _ (List.mem_of_getElem? (i := 26) rfl) j hj.1 hj.2
theorem rZ_27 (h : zSg sZ σ) (j : Nat) (hj : 0 ≤ j ∧ j ≤ 15) : zr (0) (255) (zgi σ 37 j) := h _ (List.mem_of_getElem? (i := 27) rfl) j hj.1 hj.2
theorem rZ_28 (h : zSg sZ σ) (j : Nat) (hj : 16 ≤ j ∧ j ≤ 20) : zr (0) (65535) (zgi σ 37 j) := h _ (List.mem_of_getElem? (i := 28) rfl) j hj.1 hj.2
theorem rZ_29 (h : zSg sZ σ) (j : Nat) (hj : 21 ≤ j ∧ j ≤ 22) : zr (0) (255) (zgi σ 37 j) := h _ (List.mem_of_getElem? (i := 29) rfl) j hj.1 hj.2
theorem rZ_30 (h : zSg sZ σ) (j : Nat) (hj : 23 ≤ j ∧ j ≤ 24) : zr (0) (1) (zgi σ 37 j) := h _ (List.mem_of_getElem? (i := 30) rfl) j hj.1 hj.2
theorem rZ_31 (h : zSg sZ σ) (j : Nat) (hj : 25 ≤ j ∧ j ≤ 25) : zr (0) (2) (zgi σ 37 j) := h _ (List.mem_of_getElem? (i := 31) rfl) j hj.1 hj.2
theorem rZ_32 (h : zSg sZ σ) (j : Nat) (hj : 26 ≤ j ∧ j ≤ 28) : zr (0) (1) (zgi σ 37 j) := h _ (List.mem_of_getElem? (i := 32) rfl) j hj.1 hj.2
theorem rZ_33 (h : zSg sZ σ) (j : Nat) (hj : 0 ≤ j ∧ j ≤ 20) : zr (0) (65535) (zgi σ 37 j) := h _ (List.mem_of_getElem? (i := 33) rfl) j hj.1 hj.2
theorem rZ_34 (h : zSg sZ σ) (j : Nat) (hj : 0 ≤ j ∧ j ≤ 10) : zr (0) (255) (zgi σ 23 j) := h _ (List.mem_of_getElem? (i := 34) rfl) j hj.1 hj.2
theorem rZ_35 (h : zSg sZ σ) (j : Nat) (hj : 11 ≤ j ∧ j ≤ 11) : zr (0) (16383) (zgi σ 23 j) := h _ (List.mem_of_getElem? (i := 35) rfl) j hj.1 hj.2
theorem rZ_36 (h : zSg sZ σ) (j : Nat) (hj : 12 ≤ j ∧ j ≤ 12) : zr (0) (3) (zgi σ 23 j) := h _ (List.mem_of_getElem? (i := 36) rfl) j hj.1 hj.2
theorem rZ_37 (h : zSg sZ σ) (j : Nat) (hj : 13 ≤ j ∧ j ≤ 13) : zr (0) (255) (zgi σ 23 j) := h _ (List.mem_of_getElem? (i := 37) rfl) j hj.1 hj.2
theorem rZ_38 (h : zSg sZ σ) (j : Nat) (hj : 14 ≤ j ∧ j ≤ 14) : zr (0) (1) (zgi σ 23 j) := h _ (List.mem_of_getElem? (i := 38) rfl) j hj.1 hj.2
theorem rZ_39 (h : zSg sZ σ) (j : Nat) (hj : 15 ≤ j ∧ j ≤ 15) : zr (0) (255) (zgi σ 23 j) := h _ (List.mem_of_getElem? (i := 39) rfl) j hj.1 hj.2
theorem rZ_40 (h : zSg sZ σ) (j : Nat) (hj : 19 ≤ j ∧ j ≤ 19) : zr (0) (255) (zgi σ 23 j) := h _ (List.mem_of_getElem? (i := 40) rfl) j hj.1 hj.2
theorem rZ_41 (h : zSg sZ σ) (j : Nat) (hj : 21 ≤ j ∧ j ≤ 21) : zr (0) (227) (zgi σ 23 j) := h _ (List.mem_of_getElem? (i := 41) rfl) j hj.1 hj.2
theorem rZ_42 (h : zSg sZ σ) (j : Nat) (hj : 26 ≤ j ∧ j ≤ 26) : zr (0) (255) (zgi σ 23 j) := h _ (List.mem_of_getElem? (i := 42) rfl) j hj.1 hj.2
theorem rZ_43 (h : zSg sZ σ) (j : Nat) (hj : 32 ≤ j ∧ j ≤ 95) : zr (0) (255) (zgi σ 23 j) := h _ (List.mem_of_getElem? (i := 43) rfl) j hj.1 hj.2
theorem rZ_44 (h : zSg sZ σ) (j : Nat) (hj : 0 ≤ j ∧ j ≤ 10) : zr (0) (255) (zgi σ 24 j) := h _ (List.mem_of_getElem? (i := 44) rfl) j hj.1 hj.2
theorem rZ_45 (h : zSg sZ σ) (j : Nat) (hj : 11 ≤ j ∧ j ≤ 11) : zr (0) (16383) (zgi σ 24 j) := h _ (List.mem_of_getElem? (i := 45) rfl) j hj.1 hj.2
theorem rZ_46 (h : zSg sZ σ) (j : Nat) (hj : 12 ≤ j ∧ j ≤ 12) : zr (0) (3) (zgi σ 24 j) := h _ (List.mem_of_getElem? (i := 46) rfl) j hj.1 hj.2
theorem rZ_47 (h : zSg sZ σ) (j : Nat) (hj : 13 ≤ j ∧ j ≤ 13) : zr (0) (255) (zgi σ 24 j) := h _ (List.mem_of_getElem? (i := 47) rfl) j hj.1 hj.2
theorem rZ_48 (h : zSg sZ σ) (j : Nat) (hj : 14 ≤ j ∧ j ≤ 14) : zr (0) (1) (zgi σ 24 j) := h _ (List.mem_of_getElem? (i := 48) rfl) j hj.1 hj.2
theorem rZ_49 (h : zSg sZ σ) (j : Nat) (hj : 15 ≤ j ∧ j ≤ 15) : zr (0) (255) (zgi σ 24 j) := h _ (List.mem_of_getElem? (i := 49) rfl) j hj.1 hj.2
theorem rZ_50 (h : zSg sZ σ) (j : Nat) (hj : 19 ≤ j ∧ j ≤ 19) : zr (0) (255) (zgi σ 24 j) := h _ (List.mem_of_getElem? (i := 50) rfl) j hj.1 hj.2
theorem rZ_51 (h : zSg sZ σ) (j : Nat) (hj : 21 ≤ j ∧ j ≤ 21) : zr (0) (227) (zgi σ 24 j) := h _ (List.mem_of_getElem? (i := 51) rfl) j hj.1 hj.2
theorem rZ_52 (h : zSg sZ σ) (j : Nat) (hj : 26 ≤ j ∧ j ≤ 26) : zr (0) (255) (zgi σ 24 j) := h _ (List.mem_of_getElem? (i := 52) rfl) j hj.1 hj.2
theorem rZ_53 (h : zSg sZ σ) (j : Nat) (hj : 32 ≤ j ∧ j ≤ 95) : zr (0) (255) (zgi σ 24 j) := h _ (List.mem_of_getElem? (i := 53) rfl) j hj.1 hj.2
theorem rZ_54 (h : zSg sZ σ) (j : Nat) (hj : 0 ≤ j ∧ j ≤ 6) : zr (0) (255) (zgi σ 34 j) := h _ (List.mem_of_getElem? (i := 54) rfl) j hj.1 hj.2
theorem rZ_55 (h : zSg sZ σ) (j : Nat) (hj : 10 ≤ j ∧ j ≤ 11) : zr (0) (1) (zgi σ 34 j) := h _ (List.mem_of_getElem? (i := 55) rfl) j hj.1 hj.2
theorem rZ_56 (h : zSg sZ σ) (j : Nat) (hj : 0 ≤ j ∧ j ≤ 6) : zr (0) (255) (zgi σ 35 j) := h _ (List.mem_of_getElem? (i := 56) rfl) j hj.1 hj.2
theorem rZ_57 (h : zSg sZ σ) (j : Nat) (hj : 10 ≤ j ∧ j ≤ 11) : zr (0) (1) (zgi σ 35 j) := h _ (List.mem_of_getElem? (i := 57) rfl) j hj.1 hj.2
theorem rZ_58 (h : zSg sZ σ) (j : Nat) (hj : 17 ≤ j ∧ j ≤ 17) : zr (0) (7) (zgi σ 30 j) := h _ (List.mem_of_getElem? (i := 58) rfl) j hj.1 hj.2
theorem rZ_59 (h : zSg sZ σ) (j : Nat) (hj : 17 ≤ j ∧ j ≤ 17) : zr (0) (7) (zgi σ 31 j) := h _ (List.mem_of_getElem? (i := 59) rfl) j hj.1 hj.2
theorem rZ_60 (h : zSg sZ σ) (j : Nat) (hj : 64 ≤ j ∧ j ≤ 64) : zr (0) (3) (zgi σ 32 j) := h _ (List.mem_of_getElem? (i := 60) rfl) j hj.1 hj.2
theorem rZ_61 (h : zSg sZ σ) (j : Nat) (hj : 64 ≤ j ∧ j ≤ 64) : zr (0) (3) (zgi σ 33 j) := h _ (List.mem_of_getElem? (i := 61) rfl) j hj.1 hj.2
theorem xZ_sp {lo hi : Int} (h : zSp zQZ σ) (hr : zr lo hi (zgi σ 7 999)) (c : 0 < lo ∧ hi ≤ 17) : zr 16 17 (zgi σ 7 999) := by
  obtain ⟨r1, r2⟩ := hr
  unfold zgi at r1 r2 ⊢
  rcases h with h | h
  · have h : (σ.1 7 999).toInt = 0 := h
    exfalso; omega
  · have h : 16 ≤ (σ.1 7 999).toInt := h
    exact ⟨h, by omega⟩
end ZSZ
theorem s0_X4_clear {G : Nat → Int} {σ : zSt} (hσ : zIZ G σ) : zok (fX4_clear σ ) (zIZ G) := by
  unfold fX4_clear
  refine zok_ck rfl ?_
  refine zok_bs (hσ.wi 0 0 (by decide) (zr_c (lo := 255) (hi := 255) (by decide)) (by decide +kernel)) (fun σ1 e2 i1 => ?_)
  refine zok_ck rfl ?_
  refine zok_bs (i1.wi 1 1 (by decide) (zr_c (lo := 127) (hi := 127) (by decide)) (by decide +kernel)) (fun σ2 e4 i3 => ?_)
  refine zok_ck rfl ?_
  refine zok_bs (i3.wi 2 2 (by decide) (zr_c (lo := 255) (hi := 255) (by decide)) (by decide +kernel)) (fun σ3 e6 i5 => ?_)
  refine zok_ck rfl ?_
  refine zok_bs (i5.wi 3 3 (by decide) (zr_c (lo := 0) (hi := 0) (by decide)) (by decide +kernel)) (fun σ4 e8 i7 => ?_)
  refine zok_ck rfl ?_
  refine zok_bs (i7.wi 4 4 (by decide) (zr_c (lo := 255) (hi := 255) (by decide)) (by decide +kernel)) (fun σ5 e10 i9 => ?_)
  refine zok_ck rfl ?_
  refine zok_bs (i9.wi 5 5 (by decide) (zr_c (lo := 0) (hi := 0) (by decide)) (by decide +kernel)) (fun σ6 e12 i11 => ?_)
  refine zok_ck rfl ?_
  refine zok_bs (i11.wi 6 6 (by decide) (zr_c (lo := 0) (hi := 0) (by decide)) (by decide +kernel)) (fun σ7 e14 i13 => ?_)
  exact zok_some i13
theorem s0_J7_fill_53178_k30_5_body {G : Nat → Int} {σ : zSt} {k5 : zSt → Int32 → Int32 → Int32 → Option (zSt)} {Mk5 : Int} (hk5 : ∀ (σ : zSt) (x1 : Int32) (x2 : Int32) (x3 : Int32), zIZ G σ → zr (0) (0) x1 → zr (0) (19) x2 → zr (19) (19) x3 → (19) - x2.toInt < Mk5 → zok (k5 σ x1 x2 x3) (zIZ G)) (hσ : zIZ G σ) {x1 : Int32} (h_x1 : zr (0) (0) x1) {x2 : Int32} (h_x2 : zr (0) (19) x2) {x3 : Int32} (h_x3 : zr (19) (19) x3) (hMk5 : (19) - x2.toInt ≤ Mk5) : zok (fJ7_fill_53178_k30_5_body k5 σ x1 x2 x3) (zIZ G) := by
  unfold fJ7_fill_53178_k30_5_body
  refine zok_if (fun q1 => ?_) (fun q1 => ?_)
  · have h2 := zc_ler (19) q1 h_x3 h_x2 (by decide)
    exact zok_some hσ
  have h3 := zc_ltl (18) (z_nle q1) h_x2 h_x3 (by decide)
  refine zok_ck (zin_ok h3 (by decide)) ?_
  refine zok_bs (hσ.wi 0 18 (z_ix h3 (by decide)) h_x1 (by decide +kernel)) (fun σ1 e5 i4 => ?_)
  refine zok_br (zr_add (lo := 1) (hi := 19) h3 (zr_c (lo := 1) (hi := 1) (by decide)) (by decide)) (fun v2 e7 h6 => ?_)
  exact hk5 _ _ _ _ i4 h_x1 (zr_w h6 (by decide)) h_x3 (by rw [e7]; have := z_tadd (y := (1 : Int32)) h3 (zr_c (lo := 1) (hi := 1) (by decide)) (by decide); have e9 : (1 : Int32).toInt = 1 := rfl; omega) 
theorem s0_J7_fill_53178_k30_5 {G : Nat → Int} : ∀ (n : Nat) {σ : zSt} (hσ : zIZ G σ) {x1 : Int32} (h_x1 : zr (0) (0) x1) {x2 : Int32} (h_x2 : zr (0) (19) x2) {x3 : Int32} (h_x3 : zr (19) (19) x3) (hm : (19) - x2.toInt < n), zok (fJ7_fill_53178_k30_5 n σ x1 x2 x3) (zIZ G) := by
  intro n
  induction n with
  | zero => intro σ hσ x1 h_x1 x2 h_x2 x3 h_x3 hm ; have h9 := h_x2.1; have h8 := h_x2.2; exfalso; omega
  | succ n ih => intro σ hσ x1 h_x1 x2 h_x2 x3 h_x3 hm ; exact s0_J7_fill_53178_k30_5_body (fun σ x1 x2 x3 hσ h_x1 h_x2 h_x3 hm1 => ih hσ h_x1 h_x2 h_x3 (by omega)) hσ h_x1 h_x2 h_x3 (Int.le_refl _)
theorem s0_J7_fill_53178_k30 {G : Nat → Int} {σ : zSt} (hσ : zIZ G σ) {x1 : Int32} (h_x1 : zr (0) (0) x1) : zok (fJ7_fill_53178_k30 σ x1) (zIZ G) := by
  unfold fJ7_fill_53178_k30
  exact (s0_J7_fill_53178_k30_5 zfuel hσ h_x1 (zr_w (zr_c (lo := 0) (hi := 0) (by decide)) (by decide)) (zr_c (lo := 19) (hi := 19) (by decide)) (by decide))
theorem s0_J7_fill_fda19_k30_10_body {G : Nat → Int} {σ : zSt} {k10 : zSt → Int32 → Int32 → Int32 → Option (zSt)} {Mk10 : Int} (hk10 : ∀ (σ : zSt) (x2 : Int32) (x3 : Int32) (x4 : Int32), zIZ G σ → zr (13) (13) x2 → zr (15) (15) x3 → zr (9) (13) x4 → (13) - x4.toInt < Mk10 → zok (k10 σ x2 x3 x4) (zIZ G)) (hσ : zIZ G σ) {x2 : Int32} (h_x2 : zr (13) (13) x2) {x3 : Int32} (h_x3 : zr (15) (15) x3) {x4 : Int32} (h_x4 : zr (9) (13) x4) (hMk10 : (13) - x4.toInt ≤ Mk10) : zok (fJ7_fill_fda19_k30_10_body k10 σ x2 x3 x4) (zIZ G) := by
  unfold fJ7_fill_fda19_k30_10_body
  refine zok_if (fun q1 => ?_) (fun q1 => ?_)
  · have h2 := zc_ler (13) q1 h_x2 h_x4 (by decide)
    exact zok_some hσ
  have h3 := zc_ltl (12) (z_nle q1) h_x4 h_x2 (by decide)
  refine zok_ck (zin_ok h3 (by decide)) ?_
  refine zok_bs (hσ.wi 9 12 (z_ix h3 (by decide)) h_x3 (by decide +kernel)) (fun σ1 e5 i4 => ?_)
  refine zok_br (zr_add (lo := 10) (hi := 13) h3 (zr_c (lo := 1) (hi := 1) (by decide)) (by decide)) (fun v2 e7 h6 => ?_)
  exact hk10 _ _ _ _ i4 h_x2 h_x3 (zr_w h6 (by decide)) (by rw [e7]; have := z_tadd (y := (1 : Int32)) h3 (zr_c (lo := 1) (hi := 1) (by decide)) (by decide); have e9 : (1 : Int32).toInt = 1 := rfl; omega) 
theorem s0_J7_fill_fda19_k30_10 {G : Nat → Int} : ∀ (n : Nat) {σ : zSt} (hσ : zIZ G σ) {x2 : Int32} (h_x2 : zr (13) (13) x2) {x3 : Int32} (h_x3 : zr (15) (15) x3) {x4 : Int32} (h_x4 : zr (9) (13) x4) (hm : (13) - x4.toInt < n), zok (fJ7_fill_fda19_k30_10 n σ x2 x3 x4) (zIZ G) := by
  intro n
  induction n with
  | zero => intro σ hσ x2 h_x2 x3 h_x3 x4 h_x4 hm ; have h9 := h_x4.1; have h8 := h_x4.2; exfalso; omega
  | succ n ih => intro σ hσ x2 h_x2 x3 h_x3 x4 h_x4 hm ; exact s0_J7_fill_fda19_k30_10_body (fun σ x2 x3 x4 hσ h_x2 h_x3 h_x4 hm1 => ih hσ h_x2 h_x3 h_x4 (by omega)) hσ h_x2 h_x3 h_x4 (Int.le_refl _)
theorem s0_J7_fill_fda19_k30 {G : Nat → Int} {σ : zSt} (hσ : zIZ G σ) {x1 : Int32} (h_x1 : zr (9) (9) x1) {x2 : Int32} (h_x2 : zr (13) (13) x2) {x3 : Int32} (h_x3 : zr (15) (15) x3) : zok (fJ7_fill_fda19_k30 σ x1 x2 x3) (zIZ G) := by
  unfold fJ7_fill_fda19_k30
  refine zok_pu (s_rangeCheck (zr_c (lo := 19) (hi := 19) (by decide)) h_x1 h_x2 (by decide)) ?_
  exact (s0_J7_fill_fda19_k30_10 zfuel hσ h_x2 h_x3 (zr_w h_x1 (by decide)) (z_su h_x1 (by decide)))
theorem s0_X7_clear {G : Nat → Int} {σ : zSt} (hσ : zIZ G σ) : zok (fX7_clear σ ) (zIZ G) := by
  unfold fX7_clear
  refine zok_bu (s0_J7_fill_53178_k30 hσ (zr_c (lo := 0) (hi := 0) (by decide))) (fun σ1 i1 => ?_)
  refine zok_bu (s0_J7_fill_fda19_k30 i1 (zr_c (lo := 9) (hi := 9) (by decide)) (zr_c (lo := 13) (hi := 13) (by decide)) (zr_c (lo := 15) (hi := 15) (by decide))) (fun σ2 i2 => ?_)
  refine zok_ck rfl ?_
  refine zok_bs (i2.wi 16 16 (by decide) (zr_c (lo := 32768) (hi := 32768) (by decide)) (by decide +kernel)) (fun σ3 e4 i3 => ?_)
  refine zok_ck rfl ?_
  refine zok_bs (i3.wi 18 18 (by decide) (zr_c (lo := 255) (hi := 255) (by decide)) (by decide +kernel)) (fun σ4 e6 i5 => ?_)
  exact zok_some i5
theorem s0_J7_fill_53178_k32_5_body {G : Nat → Int} {σ : zSt} {k5 : zSt → Int32 → Int32 → Int32 → Option (zSt)} {Mk5 : Int} (hk5 : ∀ (σ : zSt) (x1 : Int32) (x2 : Int32) (x3 : Int32), zIZ G σ → zr (0) (0) x1 → zr (0) (272) x2 → zr (272) (272) x3 → (272) - x2.toInt < Mk5 → zok (k5 σ x1 x2 x3) (zIZ G)) (hσ : zIZ G σ) {x1 : Int32} (h_x1 : zr (0) (0) x1) {x2 : Int32} (h_x2 : zr (0) (272) x2) {x3 : Int32} (h_x3 : zr (272) (272) x3) (hMk5 : (272) - x2.toInt ≤ Mk5) : zok (fJ7_fill_53178_k32_5_body k5 σ x1 x2 x3) (zIZ G) := by
  unfold fJ7_fill_53178_k32_5_body
  refine zok_if (fun q1 => ?_) (fun q1 => ?_)
  · have h2 := zc_ler (272) q1 h_x3 h_x2 (by decide)
    exact zok_some hσ
  have h3 := zc_ltl (271) (z_nle q1) h_x2 h_x3 (by decide)
  refine zok_ck (zin_ok h3 (by decide)) ?_
  refine zok_bs (hσ.wi 0 271 (z_ix h3 (by decide)) h_x1 (by decide +kernel)) (fun σ1 e5 i4 => ?_)
  refine zok_br (zr_add (lo := 1) (hi := 272) h3 (zr_c (lo := 1) (hi := 1) (by decide)) (by decide)) (fun v2 e7 h6 => ?_)
  exact hk5 _ _ _ _ i4 h_x1 (zr_w h6 (by decide)) h_x3 (by rw [e7]; have := z_tadd (y := (1 : Int32)) h3 (zr_c (lo := 1) (hi := 1) (by decide)) (by decide); have e9 : (1 : Int32).toInt = 1 := rfl; omega) 
theorem s0_J7_fill_53178_k32_5 {G : Nat → Int} : ∀ (n : Nat) {σ : zSt} (hσ : zIZ G σ) {x1 : Int32} (h_x1 : zr (0) (0) x1) {x2 : Int32} (h_x2 : zr (0) (272) x2) {x3 : Int32} (h_x3 : zr (272) (272) x3) (hm : (272) - x2.toInt < n), zok (fJ7_fill_53178_k32_5 n σ x1 x2 x3) (zIZ G) := by
  intro n
  induction n with
  | zero => intro σ hσ x1 h_x1 x2 h_x2 x3 h_x3 hm ; have h9 := h_x2.1; have h8 := h_x2.2; exfalso; omega
  | succ n ih => intro σ hσ x1 h_x1 x2 h_x2 x3 h_x3 hm ; exact s0_J7_fill_53178_k32_5_body (fun σ x1 x2 x3 hσ h_x1 h_x2 h_x3 hm1 => ih hσ h_x1 h_x2 h_x3 (by omega)) hσ h_x1 h_x2 h_x3 (Int.le_refl _)
theorem s0_J7_fill_53178_k32 {G : Nat → Int} {σ : zSt} (hσ : zIZ G σ) {x1 : Int32} (h_x1 : zr (0) (0) x1) : zok (fJ7_fill_53178_k32 σ x1) (zIZ G) := by
  unfold fJ7_fill_53178_k32
  exact (s0_J7_fill_53178_k32_5 zfuel hσ h_x1 (zr_w (zr_c (lo := 0) (hi := 0) (by decide)) (by decide)) (zr_c (lo := 272) (hi := 272) (by decide)) (by decide))
theorem s0_X10_clear_h {G : Nat → Int} : ∀ (n : Nat) {σ : zSt} (hσ : zIZ G σ) {x2 : Int32} (h_x2 : zr 128 272 x2) (h8 : x2.toInt % 8 = 0) (hm : 272 - x2.toInt < n), zok (fX10_clear_36 n σ x2) (zIZ G) := by
  intro n
  induction n with
  | zero => intro σ hσ x2 h_x2 h8 hm; have := h_x2.2; exfalso; omega
  | succ n ih =>
    intro σ hσ x2 h_x2 h8 hm
    show zok (fX10_clear_36_body (fX10_clear_36 n) σ x2) (zIZ G)
    unfold fX10_clear_36_body
    refine zok_if (fun q => zok_some hσ) (fun q => ?_)
    have c272 : (272 : Int32).toInt = 272 := rfl
    have q1 := Int32.lt_iff_toInt_lt.mp (z_nle q)
    have hx : zr 128 264 x2 := ⟨h_x2.1, by omega⟩
    have h0 := zr_add (lo := 128) (hi := 264) hx (zr_c (lo := 0) (hi := 0) (x := 0) (by decide)) (by decide)
    have h1 := zr_add (lo := 129) (hi := 265) hx (zr_c (lo := 1) (hi := 1) (x := 1) (by decide)) (by decide)
    have e8 := z_tadd hx (zr_c (lo := 8) (hi := 8) (x := 8) (by decide)) (by decide)
    have c8 : (8 : Int32).toInt = 8 := rfl
    refine zok_ck (zin_ok h0 (by decide)) ?_
    refine zok_bs (hσ.wi 128 264 (z_ix h0 (by decide)) (zr_any) (by decide +kernel)) (fun σ1 e1 i1 => ?_)
    refine zok_ck (zin_ok h1 (by decide)) ?_
    refine zok_bs (i1.wi 129 265 (z_ix h1 (by decide)) (zr_any) (by decide +kernel)) (fun σ2 e2 i2 => ?_)
    refine zok_bv (fun v3 e3 => ih i2 ?_ ?_ ?_)
    · subst e3; have := hx.1; have := hx.2; exact ⟨by omega, by omega⟩
    · subst e3; omega
    · subst e3; omega
theorem s0_X10_clear_36 {G : Nat → Int} (n : Nat) {σ : zSt} (hσ : zIZ G σ) {x2 : Int32} (h_x2 : zr (128) (128) x2) (hm : (128) - x2.toInt < n) (hn : zfuel ≤ n := by decide) : zok (fX10_clear_36 n σ x2) (zIZ G) :=
  s0_X10_clear_h n hσ (zr_w h_x2 (by decide)) (by have := h_x2.1; have := h_x2.2; omega) (by have := h_x2.1; unfold zfuel at hn; omega)
theorem s0_X10_clear {G : Nat → Int} {σ : zSt} (hσ : zIZ G σ) : zok (fX10_clear σ ) (zIZ G) := by
  unfold fX10_clear
  refine zok_ck rfl ?_
  refine zok_bv (fun v4 e2 => ?_)
  refine zok_bu (s0_J7_fill_53178_k32 hσ (zr_c (lo := 0) (hi := 0) (by decide))) (fun σ5 i3 => ?_)
  refine zok_ck rfl ?_
  refine zok_bs (i3.wi 66 66 (by decide) zr_any (by decide +kernel)) (fun σ6 e5 i4 => ?_)
  refine zok_ck rfl ?_
  refine zok_bs (i4.wi 65 65 (by decide) (zr_c (lo := 1) (hi := 1) (by decide)) (by decide +kernel)) (fun σ7 e7 i6 => ?_)
  exact (s0_X10_clear_36 zfuel i6 (zr_c (lo := 128) (hi := 128) (by decide)) (by decide))
theorem z0_sg : ∀ s ∈ sZ, s.2.2.2.1 ≤ 0 ∧ 0 ≤ s.2.2.2.2 := by decide +kernel
theorem zZ0 : zIZ (fun _ => 0) zS0 := ⟨fun s hs j _ _ => z0_sg s hs, fun i z _ => rfl, fun i z _ => rfl, Or.inl rfl⟩
theorem z_bif {α : Type} {P : α → Prop} {b : Bool} {x y : α} (h1 : P x) (h2 : P y) : P (bif b then x else y) := by cases b; exact h2; exact h1
set_option maxRecDepth 20000 in
theorem zC0p_all {P : zSt → Prop} {s0 s1 s2 s3 s4 s5 s6 s7 s8 s9 s10 : zSt} (h0 : P s0) (h1 : P s1) (h2 : P s2) (h3 : P s3) (h4 : P s4) (h5 : P s5) (h6 : P s6) (h7 : P s7) (h8 : P s8) (h9 : P s9) (h10 : P s10) (hZ : P zS0) (a : Nat) : P (zC0p s0 s1 s2 s3 s4 s5 s6 s7 s8 s9 s10 a) := by
  unfold zC0p
  repeat (first | assumption | refine z_bif (by assumption) ?_)
theorem zC_mem : ∀ s ∈ sC, s ∈ sZ ∨ s = (7, 4, 4, 6, 17) := by decide +kernel
theorem zC0_sg {s0 s1 s2 s3 s4 s5 s6 s7 s8 s9 s10 : zSt} (h0 : zSg sZ s0) (h1 : zSg sZ s1) (h2 : zSg sZ s2) (h3 : zSg sZ s3) (h4 : zSg sZ s4) (h5 : zSg sZ s5) (h6 : zSg sZ s6) (h7 : zSg sZ s7) (h8 : zSg sZ s8) (h9 : zSg sZ s9) (h10 : zSg sZ s10) (h : zr 6 17 (s7.1 7 4)) : zSg sC (zC0 s0 s1 s2 s3 s4 s5 s6 s7 s8 s9 s10) := by
  intro s hs j l1 l2
  rcases zC_mem s hs with m | m
  · exact zC0p_all (P := fun σ => zSg sZ σ) h0 h1 h2 h3 h4 h5 h6 h7 h8 h9 h10 zZ0.sg s.1 s m j l1 l2
  · subst m
    have ej : j = 4 := by have a : 4 ≤ j := l1; have b : j ≤ 4 := l2; omega
    subst ej
    exact h
theorem zI44 : ∀ (n : Nat) {σ : zSt} (hσ : zIZ (fun _ => 0) σ) {x1 x2 : Int32} (h2 : zr 0 32 x2) (hm : 32 - x2.toInt < n), zok (fJ7_fill_53178_k44_5 n σ x1 x2 32) (zIZ (fun _ => 0)) := by
  intro n
  induction n with
  | zero => intro σ hσ x1 x2 h2 hm; have := h2.2; exfalso; omega
  | succ n ih =>
    intro σ hσ x1 x2 h2 hm
    show zok (fJ7_fill_53178_k44_5_body (fJ7_fill_53178_k44_5 n) σ x1 x2 32) _
    unfold fJ7_fill_53178_k44_5_body
    have c32 : (32 : Int32).toInt = 32 := rfl
    refine zok_if (fun q => zok_some hσ) (fun q => ?_)
    have q1 := Int32.lt_iff_toInt_lt.mp (z_nle q)
    have h5 : zr 0 31 x2 := ⟨h2.1, by omega⟩
    have b1 := h2.1
    have c1 : (1 : Int32).toInt = 1 := rfl
    have t : (x2 + 1).toInt = x2.toInt + (1 : Int32).toInt := z_tadd h5 (zr_c (lo := 1) (hi := 1) (x := 1) (by decide)) (by decide)
    refine zok_ck (zin_ok h5 (by decide)) ?_
    refine zok_bs (I := zIZ (fun _ => 0)) (hσ.wk (by decide)) (fun σ1 e1 i1 => ?_)
    refine zok_bv (fun v e9 => ?_)
    subst e9
    exact ih i1 ⟨by omega, by omega⟩ (by omega)
def zH0 (k : Int32) (i : Nat) : Int := if i = 2 then (if k = 2 then 1 else 0) else 0
/-- the class's fresh state -/
theorem s_freshC {k : Int32} {σN4 σN5 : zSt} {σN6 : Int32 → zSt} {σN9 : zSt} (n4 : zIZ (fun _ => 0) σN4) (n5 : zIZ (fun _ => 0) σN5) (n6 : ∀ v, zIZ (fun _ => 0) (σN6 v)) (n9 : zIZ (fun _ => 0) σN9) : zIC (zH0 k) (zC1 k σN4 σN5 σN6 σN9) := by
  have w0_0 := zZ0.wi (k := 0) (j := 0) (v := (if k = 2 then 1 else 0)) 0 0 (by decide) (show zr (0) (1) (if k = 2 then 1 else 0) by split <;> exact zr_c (by decide)) (by decide +kernel)
  have w1_0 := zZ0.wi (k := 1) (j := 1) (v := 1) 1 1 (by decide) (zr_c (lo := 1) (hi := 1) (by decide)) (by decide +kernel)
  have w1_1 := w1_0.wi (k := 1) (j := 7) (v := (-1)) 7 7 (by decide) (zr_c (lo := -1) (hi := -1) (by decide)) (by decide +kernel)
  have w1_2 := w1_1.wi (k := 19) (j := 0) (v := 0) 0 0 (by decide) (zr_c (lo := 0) (hi := 0) (by decide)) (by decide +kernel)
  have w1_3 := w1_2.wi (k := 19) (j := 1) (v := 1) 1 1 (by decide) (zr_c (lo := 1) (hi := 1) (by decide)) (by decide +kernel)
  have w1_4 := w1_3.wi (k := 19) (j := 2) (v := 2) 2 2 (by decide) (zr_c (lo := 2) (hi := 2) (by decide)) (by decide +kernel)
  have w1_5 := w1_4.wi (k := 19) (j := 3) (v := 0) 3 3 (by decide) (zr_c (lo := 0) (hi := 0) (by decide)) (by decide +kernel)
  have w2_0 := zZ0.wi (k := 2) (j := 0) (v := (if k = 2 then 1 else 0)) 0 0 (by decide) (show zr (0) (1) (if k = 2 then 1 else 0) by split <;> exact zr_c (by decide)) (by decide +kernel)
  have w2_1 := w2_0.wi (k := 2) (j := 1) (v := (if k = 1 then 313 else 262)) 1 1 (by decide) (show zr (262) (313) (if k = 1 then 313 else 262) by split <;> exact zr_c (by decide)) (by decide +kernel)
  have w3_0 := zZ0.wi (k := 3) (j := 1) (v := (if k = 2 then 1 else 0)) 1 1 (by decide) (show zr (0) (1) (if k = 2 then 1 else 0) by split <;> exact zr_c (by decide)) (by decide +kernel)
  have w7_0 := zZ0.wi (k := 7) (j := 4) (v := 6) 4 4 (by decide) (zr_c (lo := 6) (hi := 6) (by decide)) (by decide +kernel)
  have w7_1 := w7_0.wi (k := 36) (j := 18) (v := 57328) 18 18 (by decide) (zr_c (lo := 57328) (hi := 57328) (by decide)) (by decide +kernel)
  refine ⟨zC0_sg w0_0.sg w1_5.sg w2_1.sg w3_0.sg n4.sg n5.sg (n6 _).sg w7_1.sg zZ0.sg n9.sg zZ0.sg (zr_c (x := 6) (by decide)), fun i z hz => ?_, fun i z hz => by simp [zLC] at hz, Or.inl rfl⟩
  match i, hz with
  | 0, hz => cases hz; rfl
  | 1, hz => cases hz; rfl
  | 2, hz => cases hz; show (if k = 2 then (1 : Int32) else 0).toInt = if (2 : Nat) = 2 then (if k = 2 then (1 : Int) else 0) else 0; rw [if_pos rfl]; split <;> rfl
  | i + 3, hz => simp [zZC] at hz
theorem z_c4 : ∃ σ, fX7_clear zS0 = some σ ∧ zIZ (fun _ => 0) σ := s0_X7_clear zZ0
theorem z_c5 : ∃ σ, fX10_clear zS0 = some σ ∧ zIZ (fun _ => 0) σ := s0_X10_clear zZ0
theorem z_c6 (v : Int32) : ∃ σ, fX4_clear (zsi (zsi (zsi zS0 6 0 v) 34 10 1) 34 11 1) = some σ ∧ zIZ (fun _ => 0) σ := s0_X4_clear (((zZ0.wi (k := 6) (j := 0) (v := v) 0 0 (by decide) zr_any (by decide +kernel)).wi (k := 34) (j := 10) (v := 1) 10 10 (by decide) (zr_c (lo := 1) (hi := 1) (by decide)) (by decide +kernel)).wi (k := 34) (j := 11) (v := 1) 11 11 (by decide) (zr_c (lo := 1) (hi := 1) (by decide)) (by decide +kernel))
theorem z_c9 : ∃ σ, fJ7_fill_53178_k44 zS0 (-1) = some σ ∧ zIZ (fun _ => 0) σ := zI44 zfuel zZ0 (zr_c (by decide)) (by decide)
