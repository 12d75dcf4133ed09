theorem zQ.wt {R S : List Nat} {A B : List (Nat × Nat × Nat)} {σ0 σ : zSt} (h : zQ R A S B σ0 σ) {w v : Int32} {j : Nat} (c : R.any (Nat.beq 13) = true) (d : R.any (Nat.beq 14) = true) : zQ R A S B σ0 (zsi σ (ztp w) j v) := by
  refine zQ.wi h ?_
  unfold zcv
  rcases z_tp13 w with z | z
  · rw [z, c]; rfl
  · rw [z, d]; rfl
theorem fy_fX2_addToTape_29 {σ0 : zSt} {σ : zSt} (h : (zQ [13, 14] [(1, 2, 2)] [] []) σ0 σ) : zpc (fX2_addToTape_29 σ) (fun r => (zQ [13, 14] [(1, 2, 2)] [] []) σ0 (r)) := by
  unfold fX2_addToTape_29
  exact zpc_some h
theorem fy_fX2_addToTape {σ0 : zSt} {σ : zSt} {x1 : Int32} (h : (zQ [13, 14] [(1, 2, 2)] [] []) σ0 σ) : zpc (fX2_addToTape σ x1) (fun r => (zQ [13, 14] [(1, 2, 2)] [] []) σ0 (r)) := by
  unfold fX2_addToTape
  exact zpc_if (fun _ => fy_fX2_addToTape_29 h) (fun _ => zpc_ck (zpc_bs (zQ.wt h rfl rfl) (fun σ1 hσ1 => zpc_bs (zQ.wi hσ1 rfl) (fun σ2 hσ2 => fy_fX2_addToTape_29 hσ2))))
theorem fy_fX2_repeatTape_47 {σ0 : zSt} {σ : zSt} {x2 : Int32} {x3 : Int32} (h : (zQ [13, 14] [(1, 2, 2)] [] []) σ0 σ) : zpc (fX2_repeatTape_47 σ x2 x3) (fun r => (zQ [13, 14] [(1, 2, 2)] [] []) σ0 (r)) := by
  unfold fX2_repeatTape_47
  exact zpc_bs (zQ.wi h rfl) (fun σ1 hσ1 => zpc_some hσ1)
theorem fy_fX2_repeatTape_15_body {σ0 : zSt} {k15 : zSt → Int32 → Int32 → Int32 → Option (zSt)} (hk15 : ∀ (y0 : zSt) (y1 : Int32) (y2 : Int32) (y3 : Int32), (zQ [13, 14] [(1, 2, 2)] [] []) σ0 y0 → zpc (k15 y0 y1 y2 y3) (fun r => (zQ [13, 14] [(1, 2, 2)] [] []) σ0 (r))) {σ : zSt} {x2 : Int32} {x3 : Int32} {x4 : Int32} (h : (zQ [13, 14] [(1, 2, 2)] [] []) σ0 σ) : zpc (fX2_repeatTape_15_body k15 σ x2 x3 x4) (fun r => (zQ [13, 14] [(1, 2, 2)] [] []) σ0 (r)) := by
  unfold fX2_repeatTape_15_body
  exact zpc_if (fun _ => fy_fX2_repeatTape_47 h) (fun _ => zpc_if (fun _ => fy_fX2_repeatTape_47 h) (fun _ => zpc_ck (zpc_ck (zpc_bs (zQ.wt h rfl rfl) (fun σ2 hσ2 => zpc_bv (fun v3 _ => hk15 _ _ _ _ hσ2))))))
theorem fy_fX2_repeatTape_15 {σ0 : zSt} : ∀ (n : Nat) (y0 : zSt) (y1 : Int32) (y2 : Int32) (y3 : Int32), (zQ [13, 14] [(1, 2, 2)] [] []) σ0 y0 → zpc (fX2_repeatTape_15 n y0 y1 y2 y3) (fun r => (zQ [13, 14] [(1, 2, 2)] [] []) σ0 (r)) := by
  intro n
  induction n with
  | zero => intro y0 y1 y2 y3 h; exact zpc_none
  | succ n ih => intro y0 y1 y2 y3 h; exact fy_fX2_repeatTape_15_body ih h
theorem fy_fX2_repeatTape {σ0 : zSt} {σ : zSt} {x1 : Int32} (h : (zQ [13, 14] [(1, 2, 2)] [] []) σ0 σ) : zpc (fX2_repeatTape σ x1) (fun r => (zQ [13, 14] [(1, 2, 2)] [] []) σ0 (r)) := by
  unfold fX2_repeatTape
  exact zpc_bv (fun v4 _ => zpc_bv (fun v5 _ => fy_fX2_repeatTape_15 _ _ _ _ _ h))
theorem fy_fX2_changeTape_52 {σ0 : zSt} {σ : zSt} (h : (zQ [13, 14] [(1, 2, 2)] [] []) σ0 σ) : zpc (fX2_changeTape_52 σ) (fun r => (zQ [13, 14] [(1, 2, 2)] [] []) σ0 (r)) := by
  unfold fX2_changeTape_52
  exact zpc_some h
theorem fy_fX2_changeTape_3_body {σ0 : zSt} {k3 : zSt → Int32 → Int64 → Int32 → Option (zSt)} (hk3 : ∀ (y0 : zSt) (y1 : Int32) (y2 : Int64) (y3 : Int32), (zQ [13, 14] [(1, 2, 2)] [] []) σ0 y0 → zpc (k3 y0 y1 y2 y3) (fun r => (zQ [13, 14] [(1, 2, 2)] [] []) σ0 (r))) {σ : zSt} {x1 : Int32} {x2 : Int64} {x4 : Int32} (h : (zQ [13, 14] [(1, 2, 2)] [] []) σ0 σ) : zpc (fX2_changeTape_3_body k3 σ x1 x2 x4) (fun r => (zQ [13, 14] [(1, 2, 2)] [] []) σ0 (r)) := by
  unfold fX2_changeTape_3_body
  exact zpc_if (fun _ => fy_fX2_changeTape_52 h) (fun _ => zpc_if (fun _ => fy_fX2_changeTape_52 h) (fun _ => zpc_if (fun _ => fy_fX2_changeTape_52 h) (fun _ => zpc_ck (zpc_bs (zQ.wt h rfl rfl) (fun σ1 hσ1 => zpc_bv (fun v2 _ => hk3 _ _ _ _ hσ1))))))
theorem fy_fX2_changeTape_3 {σ0 : zSt} : ∀ (n : Nat) (y0 : zSt) (y1 : Int32) (y2 : Int64) (y3 : Int32), (zQ [13, 14] [(1, 2, 2)] [] []) σ0 y0 → zpc (fX2_changeTape_3 n y0 y1 y2 y3) (fun r => (zQ [13, 14] [(1, 2, 2)] [] []) σ0 (r)) := by
  intro n
  induction n with
  | zero => intro y0 y1 y2 y3 h; exact zpc_none
  | succ n ih => intro y0 y1 y2 y3 h; exact fy_fX2_changeTape_3_body ih h
theorem fy_fX2_changeTape {σ0 : zSt} {σ : zSt} {x1 : Int32} {x2 : Int64} (h : (zQ [13, 14] [(1, 2, 2)] [] []) σ0 σ) : zpc (fX2_changeTape σ x1 x2) (fun r => (zQ [13, 14] [(1, 2, 2)] [] []) σ0 (r)) := by
  unfold fX2_changeTape
  exact fy_fX2_changeTape_3 _ _ _ _ _ h
theorem fy_fX11_feed_11 {σ0 : zSt} {σ : zSt} (h : (zQ [13, 14] [(1, 2, 2)] [] []) σ0 σ) : zpc (fX11_feed_11 σ) (fun r => (zQ [13, 14] [(1, 2, 2)] [] []) σ0 (zRis r)) := by
  unfold fX11_feed_11
  exact zpc_some h
theorem fy_fX11_feed_79 {σ0 : zSt} {k48 : zSt → Int32 → Int64 → Int64 → Int64 → Int32 → Option (zRi)} (hk48 : ∀ (y0 : zSt) (y1 : Int32) (y2 : Int64) (y3 : Int64) (y4 : Int64) (y5 : Int32), (zQ [13, 14] [(1, 2, 2)] [] []) σ0 y0 → zpc (k48 y0 y1 y2 y3 y4 y5) (fun r => (zQ [13, 14] [(1, 2, 2)] [] []) σ0 (zRis r))) {σ : zSt} {x1 : Int32} {x2 : Int64} {x4 : Int64} {x6 : Int64} {x8 : Int32} {s0 : Int64} (h : (zQ [13, 14] [(1, 2, 2)] [] []) σ0 σ) : zpc (fX11_feed_79 k48 σ x1 x2 x4 x6 x8 s0) (fun r => (zQ [13, 14] [(1, 2, 2)] [] []) σ0 (zRis r)) := by
  unfold fX11_feed_79
  exact zpc_bu (fy_fX2_addToTape h) (fun σ1 hσ1 => zpc_bv (fun v2 _ => hk48 _ _ _ _ _ _ hσ1))
theorem fy_fX11_feed_48_body {σ0 : zSt} {k48 : zSt → Int32 → Int64 → Int64 → Int64 → Int32 → Option (zRi)} (hk48 : ∀ (y0 : zSt) (y1 : Int32) (y2 : Int64) (y3 : Int64) (y4 : Int64) (y5 : Int32), (zQ [13, 14] [(1, 2, 2)] [] []) σ0 y0 → zpc (k48 y0 y1 y2 y3 y4 y5) (fun r => (zQ [13, 14] [(1, 2, 2)] [] []) σ0 (zRis r))) {σ : zSt} {x1 : Int32} {x2 : Int64} {x4 : Int64} {x6 : Int64} {x8 : Int32} (h : (zQ [13, 14] [(1, 2, 2)] [] []) σ0 σ) : zpc (fX11_feed_48_body k48 σ x1 x2 x4 x6 x8) (fun r => (zQ [13, 14] [(1, 2, 2)] [] []) σ0 (zRis r)) := by
  unfold fX11_feed_48_body
  exact zpc_if (fun _ => zpc_some h) (fun _ => zpc_if (fun _ => zpc_if (fun _ => fy_fX11_feed_79 hk48 h) (fun _ => fy_fX11_feed_79 hk48 h)) (fun _ => fy_fX11_feed_79 hk48 h))
theorem fy_fX11_feed_48 {σ0 : zSt} : ∀ (n : Nat) (y0 : zSt) (y1 : Int32) (y2 : Int64) (y3 : Int64) (y4 : Int64) (y5 : Int32), (zQ [13, 14] [(1, 2, 2)] [] []) σ0 y0 → zpc (fX11_feed_48 n y0 y1 y2 y3 y4 y5) (fun r => (zQ [13, 14] [(1, 2, 2)] [] []) σ0 (zRis r)) := by
  intro n
  induction n with
  | zero => intro y0 y1 y2 y3 y4 y5 h; exact zpc_none
  | succ n ih => intro y0 y1 y2 y3 y4 y5 h; exact fy_fX11_feed_48_body ih h
theorem fy_fX11_feed {σ0 : zSt} {σ : zSt} {x1 : Int32} {x2 : Int64} {x4 : Int64} {x6 : Int64} (h : (zQ [13, 14] [(1, 2, 2)] [] []) σ0 σ) : zpc (fX11_feed σ x1 x2 x4 x6) (fun r => (zQ [13, 14] [(1, 2, 2)] [] []) σ0 (zRis r)) := by
  unfold fX11_feed
  exact zpc_if (fun _ => fy_fX11_feed_11 h) (fun _ => zpc_if (fun _ => zpc_if (fun _ => fy_fX11_feed_48 _ _ _ _ _ _ _ h) (fun _ => zpc_some h)) (fun _ => fy_fX11_feed_11 h))
theorem fy_fX11_grow_19 {σ0 : zSt} {σ : zSt} (h : (zQ [13, 14] [(1, 2, 2)] [] []) σ0 σ) : zpc (fX11_grow_19 σ) (fun r => (zQ [13, 14] [(1, 2, 2)] [] []) σ0 (zRis r)) := by
  unfold fX11_grow_19
  exact zpc_some h
theorem fy_fX11_grow {σ0 : zSt} {σ : zSt} {x1 : Int32} (h : (zQ [13, 14] [(1, 2, 2)] [] []) σ0 σ) : zpc (fX11_grow σ x1) (fun r => (zQ [13, 14] [(1, 2, 2)] [] []) σ0 (zRis r)) := by
  unfold fX11_grow
  exact zpc_bv (fun v1 _ => zpc_if (fun _ => fy_fX11_grow_19 h) (fun _ => zpc_if (fun _ => zpc_if (fun _ => zpc_some h) (fun _ => zpc_bu (fy_fX2_repeatTape h) (fun σ2 hσ2 => zpc_some hσ2))) (fun _ => fy_fX11_grow_19 h)))
theorem fy_fX11_patch_18 {σ0 : zSt} {σ : zSt} (h : (zQ [13, 14] [(1, 2, 2)] [] []) σ0 σ) : zpc (fX11_patch_18 σ) (fun r => (zQ [13, 14] [(1, 2, 2)] [] []) σ0 (zRus r)) := by
  unfold fX11_patch_18
  exact zpc_some h
theorem fy_fX11_patch {σ0 : zSt} {σ : zSt} {x1 : Int32} {x2 : Int64} (h : (zQ [13, 14] [(1, 2, 2)] [] []) σ0 σ) : zpc (fX11_patch σ x1 x2) (fun r => (zQ [13, 14] [(1, 2, 2)] [] []) σ0 (zRus r)) := by
  unfold fX11_patch
  exact zpc_if (fun _ => fy_fX11_patch_18 h) (fun _ => zpc_if (fun _ => zpc_bu (fy_fX2_changeTape h) (fun σ1 hσ1 => zpc_some hσ1)) (fun _ => fy_fX11_patch_18 h))
theorem fY_fX12_fails_10 {σ0 : zSt} {σ : zSt} {x1 : Int32} {s0 : Int32} (h : (zQ [1] [(0, 0, 0), (0, 2, 2)] [] []) σ0 σ) : zpc (fX12_fails_10 σ x1 s0) (fun r => (zQ [1] [(0, 0, 0), (0, 2, 2)] [] []) σ0 (r.1)) := by
  unfold fX12_fails_10
  exact zpc_bs (zQ.wi h rfl) (fun σ1 hσ1 => zpc_ck (zpc_some hσ1))
theorem fY_fX12_fails {σ0 : zSt} {σ : zSt} {x1 : Int32} {x2 : Int32} (h : (zQ [1] [(0, 0, 0), (0, 2, 2)] [] []) σ0 σ) : zpc (fX12_fails σ x1 x2) (fun r => (zQ [1] [(0, 0, 0), (0, 2, 2)] [] []) σ0 (r.1)) := by
  unfold fX12_fails
  exact zpc_if (fun _ => fY_fX12_fails_10 h) (fun _ => fY_fX12_fails_10 h)
theorem fY_fX12_within_18 {σ0 : zSt} {σ : zSt} {s0 : Int32} (h : (zQ [1] [(0, 0, 0), (0, 2, 2)] [] []) σ0 σ) : zpc (fX12_within_18 σ s0) (fun r => (zQ [1] [(0, 0, 0), (0, 2, 2)] [] []) σ0 (r.1)) := by
  unfold fX12_within_18
  exact zpc_ck (zpc_some h)
theorem fY_fX12_within_17 {σ0 : zSt} {σ : zSt} (h : (zQ [1] [(0, 0, 0), (0, 2, 2)] [] []) σ0 σ) : zpc (fX12_within_17 σ) (fun r => (zQ [1] [(0, 0, 0), (0, 2, 2)] [] []) σ0 (r.1)) := by
  unfold fX12_within_17
  exact fY_fX12_within_18 h
theorem fY_fX12_within {σ0 : zSt} {σ : zSt} {x0 : Int64} {x2 : Int64} {x4 : Int64} (h : (zQ [1] [(0, 0, 0), (0, 2, 2)] [] []) σ0 σ) : zpc (fX12_within σ x0 x2 x4) (fun r => (zQ [1] [(0, 0, 0), (0, 2, 2)] [] []) σ0 (r.1)) := by
  unfold fX12_within
  exact zpc_if (fun _ => fY_fX12_within_17 h) (fun _ => zpc_if (fun _ => fY_fX12_within_17 h) (fun _ => fY_fX12_within_18 h))
theorem fY_fX12_feed_49 {σ0 : zSt} {σ : zSt} (h : (zQ [1] [(0, 0, 0), (0, 2, 2)] [] []) σ0 σ) : zpc (fX12_feed_49 σ) (fun r => (zQ [1] [(0, 0, 0), (0, 2, 2)] [] []) σ0 (r.1)) := by
  unfold fX12_feed_49
  exact zpc_some h
theorem fY_fX12_feed_93 {σ0 : zSt} {k54 : zSt → Int32 → Int64 → Int64 → Int64 → Int32 → Option (zSt × Int32)} (hk54 : ∀ (y0 : zSt) (y1 : Int32) (y2 : Int64) (y3 : Int64) (y4 : Int64) (y5 : Int32), (zQ [1] [(0, 0, 0), (0, 2, 2)] [] []) σ0 y0 → zpc (k54 y0 y1 y2 y3 y4 y5) (fun r => (zQ [1] [(0, 0, 0), (0, 2, 2)] [] []) σ0 (r.1))) {σ : zSt} {x1 : Int32} {x2 : Int64} {x4 : Int64} {x6 : Int64} {x8 : Int32} {s0 : Int64} {s1 : Int32} (h : (zQ [1] [(0, 0, 0), (0, 2, 2)] [] []) σ0 σ) : zpc (fX12_feed_93 k54 σ x1 x2 x4 x6 x8 s0 s1) (fun r => (zQ [1] [(0, 0, 0), (0, 2, 2)] [] []) σ0 (r.1)) := by
  unfold fX12_feed_93
  exact zpc_ck (zpc_ck (zpc_bs (zQ.wi h rfl) (fun σ1 hσ1 => zpc_bs (zQ.wi hσ1 rfl) (fun σ2 hσ2 => zpc_bv (fun v3 _ => hk54 _ _ _ _ _ _ hσ2)))))
theorem fY_fX12_feed_54_body {σ0 : zSt} {k54 : zSt → Int32 → Int64 → Int64 → Int64 → Int32 → Option (zSt × Int32)} (hk54 : ∀ (y0 : zSt) (y1 : Int32) (y2 : Int64) (y3 : Int64) (y4 : Int64) (y5 : Int32), (zQ [1] [(0, 0, 0), (0, 2, 2)] [] []) σ0 y0 → zpc (k54 y0 y1 y2 y3 y4 y5) (fun r => (zQ [1] [(0, 0, 0), (0, 2, 2)] [] []) σ0 (r.1))) {σ : zSt} {x1 : Int32} {x2 : Int64} {x4 : Int64} {x6 : Int64} {x8 : Int32} (h : (zQ [1] [(0, 0, 0), (0, 2, 2)] [] []) σ0 σ) : zpc (fX12_feed_54_body k54 σ x1 x2 x4 x6 x8) (fun r => (zQ [1] [(0, 0, 0), (0, 2, 2)] [] []) σ0 (r.1)) := by
  unfold fX12_feed_54_body
  exact zpc_if (fun _ => zpc_some h) (fun _ => zpc_if (fun _ => zpc_if (fun _ => fY_fX12_feed_93 hk54 h) (fun _ => fY_fX12_feed_93 hk54 h)) (fun _ => fY_fX12_feed_93 hk54 h))
theorem fY_fX12_feed_54 {σ0 : zSt} : ∀ (n : Nat) (y0 : zSt) (y1 : Int32) (y2 : Int64) (y3 : Int64) (y4 : Int64) (y5 : Int32), (zQ [1] [(0, 0, 0), (0, 2, 2)] [] []) σ0 y0 → zpc (fX12_feed_54 n y0 y1 y2 y3 y4 y5) (fun r => (zQ [1] [(0, 0, 0), (0, 2, 2)] [] []) σ0 (r.1)) := by
  intro n
  induction n with
  | zero => intro y0 y1 y2 y3 y4 y5 h; exact zpc_none
  | succ n ih => intro y0 y1 y2 y3 y4 y5 h; exact fY_fX12_feed_54_body ih h
theorem fY_fX12_feed_42 {σ0 : zSt} {σ : zSt} {x1 : Int32} {x2 : Int64} {x4 : Int64} {x6 : Int64} {s0 : Int32} (h : (zQ [1] [(0, 0, 0), (0, 2, 2)] [] []) σ0 σ) : zpc (fX12_feed_42 σ x1 x2 x4 x6 s0) (fun r => (zQ [1] [(0, 0, 0), (0, 2, 2)] [] []) σ0 (r.1)) := by
  unfold fX12_feed_42
  exact zpc_bi (fY_fX12_fails h) (fun σ4 v5 hσ4 => zpc_if (fun _ => fY_fX12_feed_54 _ _ _ _ _ _ _ hσ4) (fun _ => fY_fX12_feed_49 hσ4))
theorem fY_fX12_feed_18 {σ0 : zSt} {σ : zSt} {x1 : Int32} {x2 : Int64} {x4 : Int64} {x6 : Int64} {s0 : Int32} (h : (zQ [1] [(0, 0, 0), (0, 2, 2)] [] []) σ0 σ) : zpc (fX12_feed_18 σ x1 x2 x4 x6 s0) (fun r => (zQ [1] [(0, 0, 0), (0, 2, 2)] [] []) σ0 (r.1)) := by
  unfold fX12_feed_18
  exact zpc_bi (fY_fX12_fails h) (fun σ6 v7 hσ6 => zpc_if (fun _ => zpc_if (fun _ => fY_fX12_feed_42 hσ6) (fun _ => fY_fX12_feed_42 hσ6)) (fun _ => fY_fX12_feed_49 hσ6))
theorem fY_fX12_feed {σ0 : zSt} {σ : zSt} {x1 : Int32} {x2 : Int64} {x4 : Int64} {x6 : Int64} (h : (zQ [1] [(0, 0, 0), (0, 2, 2)] [] []) σ0 σ) : zpc (fX12_feed σ x1 x2 x4 x6) (fun r => (zQ [1] [(0, 0, 0), (0, 2, 2)] [] []) σ0 (r.1)) := by
  unfold fX12_feed
  exact zpc_bi (fY_fX12_within h) (fun σ8 v9 hσ8 => zpc_if (fun _ => fY_fX12_feed_18 hσ8) (fun _ => fY_fX12_feed_18 hσ8))
theorem fY_fX12_grow_47 {σ0 : zSt} {σ : zSt} (h : (zQ [1] [(0, 0, 0), (0, 2, 2)] [] []) σ0 σ) : zpc (fX12_grow_47 σ) (fun r => (zQ [1] [(0, 0, 0), (0, 2, 2)] [] []) σ0 (r.1)) := by
  unfold fX12_grow_47
  exact zpc_some h
theorem fY_fX12_grow_54_body {σ0 : zSt} {k54 : zSt → Int32 → Int32 → Option (zSt × Int32)} (hk54 : ∀ (y0 : zSt) (y1 : Int32) (y2 : Int32), (zQ [1] [(0, 0, 0), (0, 2, 2)] [] []) σ0 y0 → zpc (k54 y0 y1 y2) (fun r => (zQ [1] [(0, 0, 0), (0, 2, 2)] [] []) σ0 (r.1))) {σ : zSt} {x1 : Int32} {x2 : Int32} (h : (zQ [1] [(0, 0, 0), (0, 2, 2)] [] []) σ0 σ) : zpc (fX12_grow_54_body k54 σ x1 x2) (fun r => (zQ [1] [(0, 0, 0), (0, 2, 2)] [] []) σ0 (r.1)) := by
  unfold fX12_grow_54_body
  exact zpc_if (fun _ => zpc_some h) (fun _ => zpc_ck (zpc_ck (zpc_ck (zpc_bs (zQ.wi h rfl) (fun σ1 hσ1 => zpc_bs (zQ.wi hσ1 rfl) (fun σ2 hσ2 => hk54 _ _ _ hσ2))))))
theorem fY_fX12_grow_54 {σ0 : zSt} : ∀ (n : Nat) (y0 : zSt) (y1 : Int32) (y2 : Int32), (zQ [1] [(0, 0, 0), (0, 2, 2)] [] []) σ0 y0 → zpc (fX12_grow_54 n y0 y1 y2) (fun r => (zQ [1] [(0, 0, 0), (0, 2, 2)] [] []) σ0 (r.1)) := by
  intro n
  induction n with
  | zero => intro y0 y1 y2 h; exact zpc_none
  | succ n ih => intro y0 y1 y2 h; exact fY_fX12_grow_54_body ih h
theorem fY_fX12_grow_40 {σ0 : zSt} {σ : zSt} {x1 : Int32} {s0 : Int32} (h : (zQ [1] [(0, 0, 0), (0, 2, 2)] [] []) σ0 σ) : zpc (fX12_grow_40 σ x1 s0) (fun r => (zQ [1] [(0, 0, 0), (0, 2, 2)] [] []) σ0 (r.1)) := by
  unfold fX12_grow_40
  exact zpc_bi (fY_fX12_fails h) (fun σ3 v4 hσ3 => zpc_if (fun _ => zpc_bv (fun v5 _ => fY_fX12_grow_54 _ _ _ _ hσ3)) (fun _ => fY_fX12_grow_47 hσ3))
theorem fY_fX12_grow_20 {σ0 : zSt} {σ : zSt} {x1 : Int32} {s0 : Int32} (h : (zQ [1] [(0, 0, 0), (0, 2, 2)] [] []) σ0 σ) : zpc (fX12_grow_20 σ x1 s0) (fun r => (zQ [1] [(0, 0, 0), (0, 2, 2)] [] []) σ0 (r.1)) := by
  unfold fX12_grow_20
  exact zpc_bi (fY_fX12_fails h) (fun σ6 v7 hσ6 => zpc_if (fun _ => zpc_if (fun _ => fY_fX12_grow_40 hσ6) (fun _ => fY_fX12_grow_40 hσ6)) (fun _ => fY_fX12_grow_47 hσ6))
theorem fY_fX12_grow_15 {σ0 : zSt} {σ : zSt} {x1 : Int32} (h : (zQ [1] [(0, 0, 0), (0, 2, 2)] [] []) σ0 σ) : zpc (fX12_grow_15 σ x1) (fun r => (zQ [1] [(0, 0, 0), (0, 2, 2)] [] []) σ0 (r.1)) := by
  unfold fX12_grow_15
  exact fY_fX12_grow_20 h
theorem fY_fX12_grow {σ0 : zSt} {σ : zSt} {x1 : Int32} (h : (zQ [1] [(0, 0, 0), (0, 2, 2)] [] []) σ0 σ) : zpc (fX12_grow σ x1) (fun r => (zQ [1] [(0, 0, 0), (0, 2, 2)] [] []) σ0 (r.1)) := by
  unfold fX12_grow
  exact zpc_if (fun _ => fY_fX12_grow_15 h) (fun _ => zpc_if (fun _ => fY_fX12_grow_20 h) (fun _ => fY_fX12_grow_15 h))
theorem fY_fX12_patch_32_body {σ0 : zSt} {k32 : zSt → Int32 → Int64 → Int32 → Option (zSt)} (hk32 : ∀ (y0 : zSt) (y1 : Int32) (y2 : Int64) (y3 : Int32), (zQ [1] [(0, 0, 0), (0, 2, 2)] [] []) σ0 y0 → zpc (k32 y0 y1 y2 y3) (fun r => (zQ [1] [(0, 0, 0), (0, 2, 2)] [] []) σ0 (r))) {σ : zSt} {x1 : Int32} {x2 : Int64} {x4 : Int32} (h : (zQ [1] [(0, 0, 0), (0, 2, 2)] [] []) σ0 σ) : zpc (fX12_patch_32_body k32 σ x1 x2 x4) (fun r => (zQ [1] [(0, 0, 0), (0, 2, 2)] [] []) σ0 (r)) := by
  unfold fX12_patch_32_body
  exact zpc_if (fun _ => zpc_some h) (fun _ => zpc_ck (zpc_bs (zQ.wi h rfl) (fun σ1 hσ1 => zpc_bv (fun v2 _ => hk32 _ _ _ _ hσ1))))
theorem fY_fX12_patch_32 {σ0 : zSt} : ∀ (n : Nat) (y0 : zSt) (y1 : Int32) (y2 : Int64) (y3 : Int32), (zQ [1] [(0, 0, 0), (0, 2, 2)] [] []) σ0 y0 → zpc (fX12_patch_32 n y0 y1 y2 y3) (fun r => (zQ [1] [(0, 0, 0), (0, 2, 2)] [] []) σ0 (r)) := by
  intro n
  induction n with
  | zero => intro y0 y1 y2 y3 h; exact zpc_none
  | succ n ih => intro y0 y1 y2 y3 h; exact fY_fX12_patch_32_body ih h
theorem fY_fX12_patch_21 {σ0 : zSt} {σ : zSt} {x1 : Int32} {x2 : Int64} {s0 : Int32} (h : (zQ [1] [(0, 0, 0), (0, 2, 2)] [] []) σ0 σ) : zpc (fX12_patch_21 σ x1 x2 s0) (fun r => (zQ [1] [(0, 0, 0), (0, 2, 2)] [] []) σ0 (r)) := by
  unfold fX12_patch_21
  exact zpc_bi (fY_fX12_fails h) (fun σ3 v4 hσ3 => zpc_if (fun _ => fY_fX12_patch_32 _ _ _ _ _ hσ3) (fun _ => zpc_some hσ3))
theorem fY_fX12_patch_16 {σ0 : zSt} {σ : zSt} {x1 : Int32} {x2 : Int64} (h : (zQ [1] [(0, 0, 0), (0, 2, 2)] [] []) σ0 σ) : zpc (fX12_patch_16 σ x1 x2) (fun r => (zQ [1] [(0, 0, 0), (0, 2, 2)] [] []) σ0 (r)) := by
  unfold fX12_patch_16
  exact fY_fX12_patch_21 h
theorem fY_fX12_patch {σ0 : zSt} {σ : zSt} {x1 : Int32} {x2 : Int64} (h : (zQ [1] [(0, 0, 0), (0, 2, 2)] [] []) σ0 σ) : zpc (fX12_patch σ x1 x2) (fun r => (zQ [1] [(0, 0, 0), (0, 2, 2)] [] []) σ0 (r)) := by
  unfold fX12_patch
  exact zpc_if (fun _ => fY_fX12_patch_16 h) (fun _ => zpc_if (fun _ => fY_fX12_patch_21 h) (fun _ => fY_fX12_patch_16 h))
theorem fz_fX12_bytesAt_7_body {σ0 : zSt} {k7 : zSt → Int32 → Int32 → Int32 → Option (zSt × Int32)} (hk7 : ∀ (y0 : zSt) (y1 : Int32) (y2 : Int32) (y3 : Int32), (zQ [] [] [] []) σ0 y0 → zpc (k7 y0 y1 y2 y3) (fun r => (zQ [] [] [] []) σ0 (r.1))) {σ : zSt} {x1 : Int32} {x3 : Int32} {x4 : Int32} (h : (zQ [] [] [] []) σ0 σ) : zpc (fX12_bytesAt_7_body k7 σ x1 x3 x4) (fun r => (zQ [] [] [] []) σ0 (r.1)) := by
  unfold fX12_bytesAt_7_body
  exact zpc_if (fun _ => zpc_some h) (fun _ => zpc_ck (zpc_bv (fun v1 _ => zpc_bv (fun v2 _ => hk7 _ _ _ _ h))))
theorem fz_fX12_bytesAt_7 {σ0 : zSt} : ∀ (n : Nat) (y0 : zSt) (y1 : Int32) (y2 : Int32) (y3 : Int32), (zQ [] [] [] []) σ0 y0 → zpc (fX12_bytesAt_7 n y0 y1 y2 y3) (fun r => (zQ [] [] [] []) σ0 (r.1)) := by
  intro n
  induction n with
  | zero => intro y0 y1 y2 y3 h; exact zpc_none
  | succ n ih => intro y0 y1 y2 y3 h; exact fz_fX12_bytesAt_7_body ih h
theorem fz_fX12_bytesAt {σ0 : zSt} {σ : zSt} {x1 : Int32} {x2 : Int32} (h : (zQ [] [] [] []) σ0 σ) : zpc (fX12_bytesAt σ x1 x2) (fun r => (zQ [] [] [] []) σ0 (r.1)) := by
  unfold fX12_bytesAt
  exact zpc_bv (fun v3 _ => fz_fX12_bytesAt_7 _ _ _ _ _ h)
theorem fz_fX12_isHeader_125 {σ0 : zSt} {σ : zSt} {s0 : Int32} (h : (zQ [] [] [] []) σ0 σ) : zpc (fX12_isHeader_125 σ s0) (fun r => (zQ [] [] [] []) σ0 (r.1)) := by
  unfold fX12_isHeader_125
  exact zpc_ck (zpc_some h)
theorem fz_fX12_isHeader_114 {σ0 : zSt} {σ : zSt} {x2 : Int32} (h : (zQ [] [] [] []) σ0 σ) : zpc (fX12_isHeader_114 σ x2) (fun r => (zQ [] [] [] []) σ0 (r.1)) := by
  unfold fX12_isHeader_114
  exact zpc_if (fun _ => fz_fX12_isHeader_125 h) (fun _ => fz_fX12_isHeader_125 h)
theorem fz_fX12_isHeader_105 {σ0 : zSt} {k15 : zSt → Int32 → Int32 → Option (zSt × Int32)} (hk15 : ∀ (y0 : zSt) (y1 : Int32) (y2 : Int32), (zQ [] [] [] []) σ0 y0 → zpc (k15 y0 y1 y2) (fun r => (zQ [] [] [] []) σ0 (r.1))) {σ : zSt} {x1 : Int32} {x2 : Int32} {s0 : Int32} {s1 : Int32} (h : (zQ [] [] [] []) σ0 σ) : zpc (fX12_isHeader_105 k15 σ x1 x2 s0 s1) (fun r => (zQ [] [] [] []) σ0 (r.1)) := by
  unfold fX12_isHeader_105
  exact zpc_if (fun _ => zpc_bv (fun v1 _ => hk15 _ _ _ h)) (fun _ => fz_fX12_isHeader_114 h)
theorem fz_fX12_isHeader_15_body {σ0 : zSt} {k15 : zSt → Int32 → Int32 → Option (zSt × Int32)} (hk15 : ∀ (y0 : zSt) (y1 : Int32) (y2 : Int32), (zQ [] [] [] []) σ0 y0 → zpc (k15 y0 y1 y2) (fun r => (zQ [] [] [] []) σ0 (r.1))) {σ : zSt} {x1 : Int32} {x2 : Int32} (h : (zQ [] [] [] []) σ0 σ) : zpc (fX12_isHeader_15_body k15 σ x1 x2) (fun r => (zQ [] [] [] []) σ0 (r.1)) := by
  unfold fX12_isHeader_15_body
  exact zpc_if (fun _ => fz_fX12_isHeader_114 h) (fun _ => zpc_ck (zpc_if (fun _ => fz_fX12_isHeader_105 hk15 h) (fun _ => zpc_if (fun _ => fz_fX12_isHeader_105 hk15 h) (fun _ => zpc_if (fun _ => fz_fX12_isHeader_105 hk15 h) (fun _ => zpc_if (fun _ => fz_fX12_isHeader_105 hk15 h) (fun _ => zpc_if (fun _ => fz_fX12_isHeader_105 hk15 h) (fun _ => zpc_if (fun _ => fz_fX12_isHeader_105 hk15 h) (fun _ => zpc_if (fun _ => fz_fX12_isHeader_105 hk15 h) (fun _ => fz_fX12_isHeader_105 hk15 h)))))))))
theorem fz_fX12_isHeader_15 {σ0 : zSt} : ∀ (n : Nat) (y0 : zSt) (y1 : Int32) (y2 : Int32), (zQ [] [] [] []) σ0 y0 → zpc (fX12_isHeader_15 n y0 y1 y2) (fun r => (zQ [] [] [] []) σ0 (r.1)) := by
  intro n
  induction n with
  | zero => intro y0 y1 y2 h; exact zpc_none
  | succ n ih => intro y0 y1 y2 h; exact fz_fX12_isHeader_15_body ih h
theorem fz_fX12_isHeader {σ0 : zSt} {σ : zSt} {x1 : Int32} (h : (zQ [] [] [] []) σ0 σ) : zpc (fX12_isHeader σ x1) (fun r => (zQ [] [] [] []) σ0 (r.1)) := by
  unfold fX12_isHeader
  exact zpc_if (fun _ => fz_fX12_isHeader_15 _ _ _ _ h) (fun _ => zpc_ck (zpc_some h))
theorem fx_fX2_romByte_29 {σ0 : zSt} {σ : zSt} {s0 : Int32} (h : (zQ [] [] [] []) σ0 σ) : zpc (fX2_romByte_29 σ s0) (fun r => (zQ [] [] [] []) σ0 (r.1)) := by
  unfold fX2_romByte_29
  exact zpc_some h
theorem fx_fX2_romByte_26 {σ0 : zSt} {σ : zSt} (h : (zQ [] [] [] []) σ0 σ) : zpc (fX2_romByte_26 σ) (fun r => (zQ [] [] [] []) σ0 (r.1)) := by
  unfold fX2_romByte_26
  exact fx_fX2_romByte_29 h
theorem fx_fX2_romByte {σ0 : zSt} {σ : zSt} {x1 : Int32} (h : (zQ [] [] [] []) σ0 σ) : zpc (fX2_romByte σ x1) (fun r => (zQ [] [] [] []) σ0 (r.1)) := by
  unfold fX2_romByte
  exact zpc_if (fun _ => fx_fX2_romByte_26 h) (fun _ => zpc_if (fun _ => fx_fX2_romByte_26 h) (fun _ => zpc_ck (fx_fX2_romByte_29 h)))
theorem fx_fX2_findHeader_84 {σ0 : zSt} {k9 : zSt → Int32 → Int32 → Option (zSt × Int32)} (hk9 : ∀ (y0 : zSt) (y1 : Int32) (y2 : Int32), (zQ [] [] [] []) σ0 y0 → zpc (k9 y0 y1 y2) (fun r => (zQ [] [] [] []) σ0 (r.1))) {σ : zSt} {x2 : Int32} {x3 : Int32} {x4 : Int32} {x5 : Int32} (h : (zQ [] [] [] []) σ0 σ) : zpc (fX2_findHeader_84 k9 σ x2 x3 x4 x5) (fun r => (zQ [] [] [] []) σ0 (r.1)) := by
  unfold fX2_findHeader_84
  exact zpc_if (fun _ => zpc_bv (fun v1 _ => hk9 _ _ _ h)) (fun _ => zpc_some h)
theorem fx_fX2_findHeader_76 {σ0 : zSt} {k9 : zSt → Int32 → Int32 → Option (zSt × Int32)} (hk9 : ∀ (y0 : zSt) (y1 : Int32) (y2 : Int32), (zQ [] [] [] []) σ0 y0 → zpc (k9 y0 y1 y2) (fun r => (zQ [] [] [] []) σ0 (r.1))) {k41 : zSt → Int32 → Int32 → Int32 → Int32 → Int32 → Option (zSt × Int32)} (hk41 : ∀ (y0 : zSt) (y1 : Int32) (y2 : Int32) (y3 : Int32) (y4 : Int32) (y5 : Int32), (zQ [] [] [] []) σ0 y0 → zpc (k41 y0 y1 y2 y3 y4 y5) (fun r => (zQ [] [] [] []) σ0 (r.1))) {σ : zSt} {x2 : Int32} {x3 : Int32} {x4 : Int32} {x6 : Int32} {s0 : Int32} (h : (zQ [] [] [] []) σ0 σ) : zpc (fX2_findHeader_76 k9 k41 σ x2 x3 x4 x6 s0) (fun r => (zQ [] [] [] []) σ0 (r.1)) := by
  unfold fX2_findHeader_76
  exact zpc_bv (fun v2 _ => hk41 _ _ _ _ _ _ h)
theorem fx_fX2_findHeader_41_body {σ0 : zSt} {k9 : zSt → Int32 → Int32 → Option (zSt × Int32)} (hk9 : ∀ (y0 : zSt) (y1 : Int32) (y2 : Int32), (zQ [] [] [] []) σ0 y0 → zpc (k9 y0 y1 y2) (fun r => (zQ [] [] [] []) σ0 (r.1))) {k41 : zSt → Int32 → Int32 → Int32 → Int32 → Int32 → Option (zSt × Int32)} (hk41 : ∀ (y0 : zSt) (y1 : Int32) (y2 : Int32) (y3 : Int32) (y4 : Int32) (y5 : Int32), (zQ [] [] [] []) σ0 y0 → zpc (k41 y0 y1 y2 y3 y4 y5) (fun r => (zQ [] [] [] []) σ0 (r.1))) {σ : zSt} {x2 : Int32} {x3 : Int32} {x4 : Int32} {x5 : Int32} {x6 : Int32} (h : (zQ [] [] [] []) σ0 σ) : zpc (fX2_findHeader_41_body k9 k41 σ x2 x3 x4 x5 x6) (fun r => (zQ [] [] [] []) σ0 (r.1)) := by
  unfold fX2_findHeader_41_body
  exact zpc_if (fun _ => fx_fX2_findHeader_84 hk9 h) (fun _ => zpc_if (fun _ => fx_fX2_findHeader_84 hk9 h) (fun _ => zpc_bi (fx_fX2_romByte h) (fun σ3 v4 hσ3 => zpc_ck (zpc_if (fun _ => fx_fX2_findHeader_76 hk9 hk41 hσ3) (fun _ => fx_fX2_findHeader_76 hk9 hk41 hσ3)))))
theorem fx_fX2_findHeader_41 {σ0 : zSt} {k9 : zSt → Int32 → Int32 → Option (zSt × Int32)} (hk9 : ∀ (y0 : zSt) (y1 : Int32) (y2 : Int32), (zQ [] [] [] []) σ0 y0 → zpc (k9 y0 y1 y2) (fun r => (zQ [] [] [] []) σ0 (r.1))) : ∀ (n : Nat) (y0 : zSt) (y1 : Int32) (y2 : Int32) (y3 : Int32) (y4 : Int32) (y5 : Int32), (zQ [] [] [] []) σ0 y0 → zpc (fX2_findHeader_41 k9 n y0 y1 y2 y3 y4 y5) (fun r => (zQ [] [] [] []) σ0 (r.1)) := by
  intro n
  induction n with
  | zero => intro y0 y1 y2 y3 y4 y5 h; exact zpc_none
  | succ n ih => intro y0 y1 y2 y3 y4 y5 h; exact fx_fX2_findHeader_41_body hk9 ih h
theorem fx_fX2_findHeader_36 {σ0 : zSt} {k9 : zSt → Int32 → Int32 → Option (zSt × Int32)} (hk9 : ∀ (y0 : zSt) (y1 : Int32) (y2 : Int32), (zQ [] [] [] []) σ0 y0 → zpc (k9 y0 y1 y2) (fun r => (zQ [] [] [] []) σ0 (r.1))) {σ : zSt} {x2 : Int32} {x3 : Int32} {x4 : Int32} {s0 : Int32} (h : (zQ [] [] [] []) σ0 σ) : zpc (fX2_findHeader_36 k9 σ x2 x3 x4 s0) (fun r => (zQ [] [] [] []) σ0 (r.1)) := by
  unfold fX2_findHeader_36
  exact fx_fX2_findHeader_41 hk9 _ _ _ _ _ _ _ h
theorem fx_fX2_findHeader_9_body {σ0 : zSt} {k9 : zSt → Int32 → Int32 → Option (zSt × Int32)} (hk9 : ∀ (y0 : zSt) (y1 : Int32) (y2 : Int32), (zQ [] [] [] []) σ0 y0 → zpc (k9 y0 y1 y2) (fun r => (zQ [] [] [] []) σ0 (r.1))) {σ : zSt} {x2 : Int32} {x3 : Int32} (h : (zQ [] [] [] []) σ0 σ) : zpc (fX2_findHeader_9_body k9 σ x2 x3) (fun r => (zQ [] [] [] []) σ0 (r.1)) := by
  unfold fX2_findHeader_9_body
  exact zpc_if (fun _ => zpc_some h) (fun _ => zpc_ck (zpc_bv (fun v5 _ => zpc_if (fun _ => fx_fX2_findHeader_36 hk9 h) (fun _ => fx_fX2_findHeader_36 hk9 h))))
theorem fx_fX2_findHeader_9 {σ0 : zSt} : ∀ (n : Nat) (y0 : zSt) (y1 : Int32) (y2 : Int32), (zQ [] [] [] []) σ0 y0 → zpc (fX2_findHeader_9 n y0 y1 y2) (fun r => (zQ [] [] [] []) σ0 (r.1)) := by
  intro n
  induction n with
  | zero => intro y0 y1 y2 h; exact zpc_none
  | succ n ih => intro y0 y1 y2 h; exact fx_fX2_findHeader_9_body ih h
theorem fx_fX2_findHeader {σ0 : zSt} {σ : zSt} (h : (zQ [] [] [] []) σ0 σ) : zpc (fX2_findHeader σ) (fun r => (zQ [] [] [] []) σ0 (r.1)) := by
  unfold fX2_findHeader
  exact fx_fX2_findHeader_9 _ _ _ _ h
theorem fx_fX2_romWord {σ0 : zSt} {σ : zSt} {x1 : Int32} (h : (zQ [] [] [] []) σ0 σ) : zpc (fX2_romWord σ x1) (fun r => (zQ [] [] [] []) σ0 (r.1)) := by
  unfold fX2_romWord
  exact zpc_bi (fx_fX2_romByte h) (fun σ1 v2 hσ1 => zpc_bi (fx_fX2_romByte hσ1) (fun σ3 v4 hσ3 => zpc_some hσ3))
theorem fx_fX2_findPaging_45 {σ0 : zSt} {σ : zSt} {s0 : Int32} (h : (zQ [] [] [] []) σ0 σ) : zpc (fX2_findPaging_45 σ s0) (fun r => (zQ [] [] [] []) σ0 (r.1)) := by
  unfold fX2_findPaging_45
  exact zpc_some h
theorem fx_fX2_findPaging {σ0 : zSt} {σ : zSt} (h : (zQ [] [] [] []) σ0 σ) : zpc (fX2_findPaging σ) (fun r => (zQ [] [] [] []) σ0 (r.1)) := by
  unfold fX2_findPaging
  exact zpc_if (fun _ => zpc_bi (fx_fX2_romWord h) (fun σ1 v2 hσ1 => zpc_bi (fx_fX2_romWord hσ1) (fun σ3 v4 hσ3 => zpc_if (fun _ => zpc_some hσ3) (fun _ => zpc_if (fun _ => fx_fX2_findPaging_45 hσ3) (fun _ => fx_fX2_findPaging_45 hσ3))))) (fun _ => zpc_some h)
theorem fn_fX0_count_20 {σ0 : zSt} {σ : zSt} {s0 : Int64} (h : (zQ [10, 11, 12, 45] [] [] []) σ0 σ) : zpc (fX0_count_20 σ s0) (fun r => (zQ [10, 11, 12, 45] [] [] []) σ0 (r.1)) := by
  unfold fX0_count_20
  exact zpc_some h
theorem fn_fX0_count_19 {σ0 : zSt} {σ : zSt} (h : (zQ [10, 11, 12, 45] [] [] []) σ0 σ) : zpc (fX0_count_19 σ) (fun r => (zQ [10, 11, 12, 45] [] [] []) σ0 (r.1)) := by
  unfold fX0_count_19
  exact fn_fX0_count_20 h
theorem fn_fX0_count {σ0 : zSt} {σ : zSt} {x1 : Int32} (h : (zQ [10, 11, 12, 45] [] [] []) σ0 σ) : zpc (fX0_count σ x1) (fun r => (zQ [10, 11, 12, 45] [] [] []) σ0 (r.1)) := by
  unfold fX0_count
  exact zpc_if (fun _ => fn_fX0_count_19 h) (fun _ => zpc_if (fun _ => fn_fX0_count_19 h) (fun _ => zpc_ck (fn_fX0_count_20 h)))
theorem fn_fX1_stepBack_30 {σ0 : zSt} {σ : zSt} {s0 : Int32} (h : (zQ [10, 11, 12, 45] [] [] []) σ0 σ) : zpc (fX1_stepBack_30 σ s0) (fun r => (zQ [10, 11, 12, 45] [] [] []) σ0 (r.1)) := by
  unfold fX1_stepBack_30
  exact zpc_some h
theorem fn_fX1_stepBack_10 {σ0 : zSt} {σ : zSt} (h : (zQ [10, 11, 12, 45] [] [] []) σ0 σ) : zpc (fX1_stepBack_10 σ) (fun r => (zQ [10, 11, 12, 45] [] [] []) σ0 (r.1)) := by
  unfold fX1_stepBack_10
  exact fn_fX1_stepBack_30 h
theorem fn_fX1_stepBack {σ0 : zSt} {σ : zSt} {x1 : Int32} (h : (zQ [10, 11, 12, 45] [] [] []) σ0 σ) : zpc (fX1_stepBack σ x1) (fun r => (zQ [10, 11, 12, 45] [] [] []) σ0 (r.1)) := by
  unfold fX1_stepBack
  exact zpc_if (fun _ => fn_fX1_stepBack_10 h) (fun _ => zpc_if (fun _ => zpc_ck (fn_fX1_stepBack_30 h)) (fun _ => fn_fX1_stepBack_10 h))
theorem fn_fX1_stopCount {σ0 : zSt} {σ : zSt} (h : (zQ [10, 11, 12, 45] [] [] []) σ0 σ) : zpc (fX1_stopCount σ) (fun r => (zQ [10, 11, 12, 45] [] [] []) σ0 (r.1)) := by
  unfold fX1_stopCount
  exact zpc_ck (zpc_some h)
theorem fn_fX1_plansWaiting {σ0 : zSt} {σ : zSt} (h : (zQ [10, 11, 12, 45] [] [] []) σ0 σ) : zpc (fX1_plansWaiting σ) (fun r => (zQ [10, 11, 12, 45] [] [] []) σ0 (r.1)) := by
  unfold fX1_plansWaiting
  exact zpc_ck (zpc_some h)
theorem fn_fX2_romByte_29 {σ0 : zSt} {σ : zSt} {s0 : Int32} (h : (zQ [10, 11, 12, 45] [] [] []) σ0 σ) : zpc (fX2_romByte_29 σ s0) (fun r => (zQ [10, 11, 12, 45] [] [] []) σ0 (r.1)) := by
  unfold fX2_romByte_29
  exact zpc_some h
theorem fn_fX2_romByte_26 {σ0 : zSt} {σ : zSt} (h : (zQ [10, 11, 12, 45] [] [] []) σ0 σ) : zpc (fX2_romByte_26 σ) (fun r => (zQ [10, 11, 12, 45] [] [] []) σ0 (r.1)) := by
  unfold fX2_romByte_26
  exact fn_fX2_romByte_29 h
theorem fn_fX2_romByte {σ0 : zSt} {σ : zSt} {x1 : Int32} (h : (zQ [10, 11, 12, 45] [] [] []) σ0 σ) : zpc (fX2_romByte σ x1) (fun r => (zQ [10, 11, 12, 45] [] [] []) σ0 (r.1)) := by
  unfold fX2_romByte
  exact zpc_if (fun _ => fn_fX2_romByte_26 h) (fun _ => zpc_if (fun _ => fn_fX2_romByte_26 h) (fun _ => zpc_ck (fn_fX2_romByte_29 h)))
theorem fn_fX2_romWord {σ0 : zSt} {σ : zSt} {x1 : Int32} (h : (zQ [10, 11, 12, 45] [] [] []) σ0 σ) : zpc (fX2_romWord σ x1) (fun r => (zQ [10, 11, 12, 45] [] [] []) σ0 (r.1)) := by
  unfold fX2_romWord
  exact zpc_bi (fn_fX2_romByte h) (fun σ1 v2 hσ1 => zpc_bi (fn_fX2_romByte hσ1) (fun σ3 v4 hσ3 => zpc_some hσ3))
theorem fn_fX2_sumOfCard_77 {σ0 : zSt} {σ : zSt} {x2 : Int32} (h : (zQ [10, 11, 12, 45] [] [] []) σ0 σ) : zpc (fX2_sumOfCard_77 σ x2) (fun r => (zQ [10, 11, 12, 45] [] [] []) σ0 (r.1)) := by
  unfold fX2_sumOfCard_77
  exact zpc_some h
theorem fn_fX2_sumOfCard_55_body {σ0 : zSt} {k55 : zSt → Int32 → Int32 → Option (zSt × Int32)} (hk55 : ∀ (y0 : zSt) (y1 : Int32) (y2 : Int32), (zQ [10, 11, 12, 45] [] [] []) σ0 y0 → zpc (k55 y0 y1 y2) (fun r => (zQ [10, 11, 12, 45] [] [] []) σ0 (r.1))) {σ : zSt} {x2 : Int32} {x3 : Int32} (h : (zQ [10, 11, 12, 45] [] [] []) σ0 σ) : zpc (fX2_sumOfCard_55_body k55 σ x2 x3) (fun r => (zQ [10, 11, 12, 45] [] [] []) σ0 (r.1)) := by
  unfold fX2_sumOfCard_55_body
  exact zpc_if (fun _ => fn_fX2_sumOfCard_77 h) (fun _ => zpc_bi (fn_fX2_romByte h) (fun σ1 v2 hσ1 => zpc_bv (fun v3 _ => zpc_bv (fun v4 _ => hk55 _ _ _ hσ1))))
theorem fn_fX2_sumOfCard_55 {σ0 : zSt} : ∀ (n : Nat) (y0 : zSt) (y1 : Int32) (y2 : Int32), (zQ [10, 11, 12, 45] [] [] []) σ0 y0 → zpc (fX2_sumOfCard_55 n y0 y1 y2) (fun r => (zQ [10, 11, 12, 45] [] [] []) σ0 (r.1)) := by
  intro n
  induction n with
  | zero => intro y0 y1 y2 h; exact zpc_none
  | succ n ih => intro y0 y1 y2 h; exact fn_fX2_sumOfCard_55_body ih h
theorem fn_fX2_sumOfCard_52 {σ0 : zSt} {σ : zSt} {x2 : Int32} (h : (zQ [10, 11, 12, 45] [] [] []) σ0 σ) : zpc (fX2_sumOfCard_52 σ x2) (fun r => (zQ [10, 11, 12, 45] [] [] []) σ0 (r.1)) := by
  unfold fX2_sumOfCard_52
  exact fn_fX2_sumOfCard_55 _ _ _ _ h
theorem fn_fX2_sumOfCard_19_body {σ0 : zSt} {k19 : zSt → Int32 → Int32 → Int32 → Option (zSt × Int32)} (hk19 : ∀ (y0 : zSt) (y1 : Int32) (y2 : Int32) (y3 : Int32), (zQ [10, 11, 12, 45] [] [] []) σ0 y0 → zpc (k19 y0 y1 y2 y3) (fun r => (zQ [10, 11, 12, 45] [] [] []) σ0 (r.1))) {σ : zSt} {x1 : Int32} {x2 : Int32} {x3 : Int32} (h : (zQ [10, 11, 12, 45] [] [] []) σ0 σ) : zpc (fX2_sumOfCard_19_body k19 σ x1 x2 x3) (fun r => (zQ [10, 11, 12, 45] [] [] []) σ0 (r.1)) := by
  unfold fX2_sumOfCard_19_body
  exact zpc_if (fun _ => zpc_if (fun _ => fn_fX2_sumOfCard_52 h) (fun _ => zpc_if (fun _ => fn_fX2_sumOfCard_77 h) (fun _ => fn_fX2_sumOfCard_52 h))) (fun _ => zpc_bi (fn_fX2_romByte h) (fun σ5 v6 hσ5 => zpc_bv (fun v7 _ => zpc_bv (fun v8 _ => hk19 _ _ _ _ hσ5))))
theorem fn_fX2_sumOfCard_19 {σ0 : zSt} : ∀ (n : Nat) (y0 : zSt) (y1 : Int32) (y2 : Int32) (y3 : Int32), (zQ [10, 11, 12, 45] [] [] []) σ0 y0 → zpc (fX2_sumOfCard_19 n y0 y1 y2 y3) (fun r => (zQ [10, 11, 12, 45] [] [] []) σ0 (r.1)) := by
  intro n
  induction n with
  | zero => intro y0 y1 y2 y3 h; exact zpc_none
  | succ n ih => intro y0 y1 y2 y3 h; exact fn_fX2_sumOfCard_19_body ih h
theorem fn_fX2_sumOfCard {σ0 : zSt} {σ : zSt} (h : (zQ [10, 11, 12, 45] [] [] []) σ0 σ) : zpc (fX2_sumOfCard σ) (fun r => (zQ [10, 11, 12, 45] [] [] []) σ0 (r.1)) := by
  unfold fX2_sumOfCard
  exact zpc_bi (fn_fX2_romByte h) (fun σ9 v10 hσ9 => zpc_bv (fun v11 _ => fn_fX2_sumOfCard_19 _ _ _ _ _ hσ9))
theorem fn_fX2_decimal {σ0 : zSt} {σ : zSt} {x1 : Int32} (h : (zQ [10, 11, 12, 45] [] [] []) σ0 σ) : zpc (fX2_decimal σ x1) (fun r => (zQ [10, 11, 12, 45] [] [] []) σ0 (r.1)) := by
  unfold fX2_decimal
  exact zpc_bi (fn_fX2_romByte h) (fun σ1 v2 hσ1 => zpc_some hσ1)
theorem fn_fX2_aboutCard_14 {σ0 : zSt} {σ : zSt} {x1 : Int32} (h : (zQ [10, 11, 12, 45] [] [] []) σ0 σ) : zpc (fX2_aboutCard_14 σ x1) (fun r => (zQ [10, 11, 12, 45] [] [] []) σ0 (r.1)) := by
  unfold fX2_aboutCard_14
  exact zpc_if (fun _ => zpc_some h) (fun _ => zpc_if (fun _ => zpc_some h) (fun _ => zpc_if (fun _ => zpc_some h) (fun _ => zpc_if (fun _ => zpc_bi (fn_fX2_decimal h) (fun σ1 v2 hσ1 => zpc_bi (fn_fX2_decimal hσ1) (fun σ3 v4 hσ3 => zpc_bi (fn_fX2_romByte hσ3) (fun σ5 v6 hσ5 => zpc_some hσ5)))) (fun _ => zpc_if (fun _ => zpc_bi (fn_fX2_romByte h) (fun σ7 v8 hσ7 => zpc_some hσ7)) (fun _ => zpc_if (fun _ => zpc_bi (fn_fX2_romByte h) (fun σ9 v10 hσ9 => zpc_some hσ9)) (fun _ => zpc_if (fun _ => zpc_bi (fn_fX2_romWord h) (fun σ11 v12 hσ11 => zpc_some hσ11)) (fun _ => zpc_bi (fn_fX2_sumOfCard h) (fun σ13 v14 hσ13 => zpc_some hσ13))))))))
theorem fn_fX2_aboutCard {σ0 : zSt} {σ : zSt} {x1 : Int32} (h : (zQ [10, 11, 12, 45] [] [] []) σ0 σ) : zpc (fX2_aboutCard σ x1) (fun r => (zQ [10, 11, 12, 45] [] [] []) σ0 (r.1)) := by
  unfold fX2_aboutCard
  exact zpc_if (fun _ => fn_fX2_aboutCard_14 h) (fun _ => zpc_if (fun _ => fn_fX2_aboutCard_14 h) (fun _ => zpc_some h))
theorem fn_fX2_cardSize {σ0 : zSt} {σ : zSt} (h : (zQ [10, 11, 12, 45] [] [] []) σ0 σ) : zpc (fX2_cardSize σ) (fun r => (zQ [10, 11, 12, 45] [] [] []) σ0 (r.1)) := by
  unfold fX2_cardSize
  exact zpc_some h
theorem fn_fX2_page {σ0 : zSt} {σ : zSt} {x1 : Int32} (h : (zQ [10, 11, 12, 45] [] [] []) σ0 σ) : zpc (fX2_page σ x1) (fun r => (zQ [10, 11, 12, 45] [] [] []) σ0 (r.1)) := by
  unfold fX2_page
  exact zpc_ck (zpc_some h)
theorem fn_fX2_batteryIsIn_25 {σ0 : zSt} {σ : zSt} {s0 : Int32} (h : (zQ [10, 11, 12, 45] [] [] []) σ0 σ) : zpc (fX2_batteryIsIn_25 σ s0) (fun r => (zQ [10, 11, 12, 45] [] [] []) σ0 (r.1)) := by
  unfold fX2_batteryIsIn_25
  exact zpc_ck (zpc_some h)
theorem fn_fX2_batteryIsIn_24 {σ0 : zSt} {σ : zSt} (h : (zQ [10, 11, 12, 45] [] [] []) σ0 σ) : zpc (fX2_batteryIsIn_24 σ) (fun r => (zQ [10, 11, 12, 45] [] [] []) σ0 (r.1)) := by
  unfold fX2_batteryIsIn_24
  exact fn_fX2_batteryIsIn_25 h
theorem fn_fX2_batteryIsIn {σ0 : zSt} {σ : zSt} (h : (zQ [10, 11, 12, 45] [] [] []) σ0 σ) : zpc (fX2_batteryIsIn σ) (fun r => (zQ [10, 11, 12, 45] [] [] []) σ0 (r.1)) := by
  unfold fX2_batteryIsIn
  exact zpc_if (fun _ => zpc_ck (zpc_if (fun _ => fn_fX2_batteryIsIn_24 h) (fun _ => fn_fX2_batteryIsIn_25 h))) (fun _ => fn_fX2_batteryIsIn_24 h)
theorem fn_fX2_batteryPlace {σ0 : zSt} {σ : zSt} {x1 : Int32} (h : (zQ [10, 11, 12, 45] [] [] []) σ0 σ) : zpc (fX2_batteryPlace σ x1) (fun r => (zQ [10, 11, 12, 45] [] [] []) σ0 (r.1)) := by
  unfold fX2_batteryPlace
  exact zpc_ck (zpc_some h)
theorem fn_fX2_read_169 {σ0 : zSt} {σ : zSt} {s0 : Int32} (h : (zQ [10, 11, 12, 45] [] [] []) σ0 σ) : zpc (fX2_read_169 σ s0) (fun r => (zQ [10, 11, 12, 45] [] [] []) σ0 (r.1)) := by
  unfold fX2_read_169
  exact zpc_some h
theorem fn_fX2_read_144 {σ0 : zSt} {σ : zSt} {x3 : Int32} (h : (zQ [10, 11, 12, 45] [] [] []) σ0 σ) : zpc (fX2_read_144 σ x3) (fun r => (zQ [10, 11, 12, 45] [] [] []) σ0 (r.1)) := by
  unfold fX2_read_144
  exact zpc_if (fun _ => fn_fX2_read_169 h) (fun _ => zpc_ck (fn_fX2_read_169 h))
theorem fn_fX2_read_126 {σ0 : zSt} {σ : zSt} {x2 : Int32} {x6 : Int32} (h : (zQ [10, 11, 12, 45] [] [] []) σ0 σ) : zpc (fX2_read_126 σ x2 x6) (fun r => (zQ [10, 11, 12, 45] [] [] []) σ0 (r.1)) := by
  unfold fX2_read_126
  exact zpc_ck (zpc_bv (fun v1 _ => fn_fX2_read_144 h))
theorem fn_fX2_read_106 {σ0 : zSt} {σ : zSt} {x2 : Int32} {s0 : Int32} (h : (zQ [10, 11, 12, 45] [] [] []) σ0 σ) : zpc (fX2_read_106 σ x2 s0) (fun r => (zQ [10, 11, 12, 45] [] [] []) σ0 (r.1)) := by
  unfold fX2_read_106
  exact zpc_if (fun _ => zpc_if (fun _ => fn_fX2_read_126 h) (fun _ => fn_fX2_read_126 h)) (fun _ => fn_fX2_read_126 h)
theorem fn_fX2_read_87 {σ0 : zSt} {σ : zSt} {x2 : Int32} {x4 : Int32} {s0 : Int32} (h : (zQ [10, 11, 12, 45] [] [] []) σ0 σ) : zpc (fX2_read_87 σ x2 x4 s0) (fun r => (zQ [10, 11, 12, 45] [] [] []) σ0 (r.1)) := by
  unfold fX2_read_87
  exact zpc_if (fun _ => zpc_ck (fn_fX2_read_106 h)) (fun _ => fn_fX2_read_106 h)
theorem fn_fX2_read_86 {σ0 : zSt} {σ : zSt} {x2 : Int32} {x4 : Int32} (h : (zQ [10, 11, 12, 45] [] [] []) σ0 σ) : zpc (fX2_read_86 σ x2 x4) (fun r => (zQ [10, 11, 12, 45] [] [] []) σ0 (r.1)) := by
  unfold fX2_read_86
  exact fn_fX2_read_87 h
theorem fn_fX2_read_62 {σ0 : zSt} {σ : zSt} {x2 : Int32} (h : (zQ [10, 11, 12, 45] [] [] []) σ0 σ) : zpc (fX2_read_62 σ x2) (fun r => (zQ [10, 11, 12, 45] [] [] []) σ0 (r.1)) := by
  unfold fX2_read_62
  exact zpc_bv (fun v2 _ => zpc_if (fun _ => zpc_if (fun _ => fn_fX2_read_86 h) (fun _ => fn_fX2_read_87 h)) (fun _ => fn_fX2_read_86 h))
theorem fn_fX2_read {σ0 : zSt} {σ : zSt} {x1 : Int32} (h : (zQ [10, 11, 12, 45] [] [] []) σ0 σ) : zpc (fX2_read σ x1) (fun r => (zQ [10, 11, 12, 45] [] [] []) σ0 (r.1)) := by
  unfold fX2_read
  exact zpc_bv (fun v3 _ => zpc_if (fun _ => zpc_if (fun _ => fn_fX2_read_144 h) (fun _ => zpc_if (fun _ => fn_fX2_read_144 h) (fun _ => zpc_if (fun _ => fn_fX2_read_62 h) (fun _ => zpc_bi (fn_fX2_batteryIsIn h) (fun σ4 v5 hσ4 => zpc_if (fun _ => fn_fX2_read_62 hσ4) (fun _ => zpc_bi (fn_fX2_batteryPlace hσ4) (fun σ6 v7 hσ6 => zpc_ck (zpc_some hσ6)))))))) (fun _ => zpc_ck (zpc_some h)))
theorem fn_fX2_batteryByte {σ0 : zSt} {σ : zSt} {x1 : Int32} (h : (zQ [10, 11, 12, 45] [] [] []) σ0 σ) : zpc (fX2_batteryByte σ x1) (fun r => (zQ [10, 11, 12, 45] [] [] []) σ0 (r.1)) := by
  unfold fX2_batteryByte
  exact zpc_ck (zpc_some h)
theorem fn_fX3_width_16 {σ0 : zSt} {σ : zSt} {s0 : Int32} (h : (zQ [10, 11, 12, 45] [] [] []) σ0 σ) : zpc (fX3_width_16 σ s0) (fun r => (zQ [10, 11, 12, 45] [] [] []) σ0 (r.1)) := by
  unfold fX3_width_16
  exact zpc_some h
theorem fn_fX3_width {σ0 : zSt} {σ : zSt} (h : (zQ [10, 11, 12, 45] [] [] []) σ0 σ) : zpc (fX3_width σ) (fun r => (zQ [10, 11, 12, 45] [] [] []) σ0 (r.1)) := by
  unfold fX3_width
  exact zpc_if (fun _ => fn_fX3_width_16 h) (fun _ => fn_fX3_width_16 h)
theorem fn_fX9_height {σ0 : zSt} {σ : zSt} (h : (zQ [10, 11, 12, 45] [] [] []) σ0 σ) : zpc (fX9_height σ) (fun r => (zQ [10, 11, 12, 45] [] [] []) σ0 (r.1)) := by
  unfold fX9_height
  exact zpc_ck (zpc_if (fun _ => zpc_ck (zpc_if (fun _ => zpc_some h) (fun _ => zpc_if (fun _ => zpc_some h) (fun _ => zpc_some h)))) (fun _ => zpc_some h))
theorem fn_fX3_height_20 {σ0 : zSt} {σ : zSt} {s0 : Int32} (h : (zQ [10, 11, 12, 45] [] [] []) σ0 σ) : zpc (fX3_height_20 σ s0) (fun r => (zQ [10, 11, 12, 45] [] [] []) σ0 (r.1)) := by
  unfold fX3_height_20
  exact zpc_some h
theorem fn_fX3_height {σ0 : zSt} {σ : zSt} (h : (zQ [10, 11, 12, 45] [] [] []) σ0 σ) : zpc (fX3_height σ) (fun r => (zQ [10, 11, 12, 45] [] [] []) σ0 (r.1)) := by
  unfold fX3_height
  exact zpc_if (fun _ => zpc_bi (fn_fX9_height h) (fun σ1 v2 hσ1 => fn_fX3_height_20 hσ1)) (fun _ => fn_fX3_height_20 h)
theorem fn_fX3_placeOf_26 {σ0 : zSt} {σ : zSt} {s0 : Int32} (h : (zQ [10, 11, 12, 45] [] [] []) σ0 σ) : zpc (fX3_placeOf_26 σ s0) (fun r => (zQ [10, 11, 12, 45] [] [] []) σ0 (r.1)) := by
  unfold fX3_placeOf_26
  exact zpc_some h
theorem fn_fX3_placeOf {σ0 : zSt} {σ : zSt} {x1 : Int32} (h : (zQ [10, 11, 12, 45] [] [] []) σ0 σ) : zpc (fX3_placeOf σ x1) (fun r => (zQ [10, 11, 12, 45] [] [] []) σ0 (r.1)) := by
  unfold fX3_placeOf
  exact zpc_if (fun _ => fn_fX3_placeOf_26 h) (fun _ => fn_fX3_placeOf_26 h)
theorem fn_fX3_dotAt_31 {σ0 : zSt} {σ : zSt} {s0 : Int32} (h : (zQ [10, 11, 12, 45] [] [] []) σ0 σ) : zpc (fX3_dotAt_31 σ s0) (fun r => (zQ [10, 11, 12, 45] [] [] []) σ0 (r.1)) := by
  unfold fX3_dotAt_31
  exact zpc_some h
theorem fn_fX3_dotAt_30 {σ0 : zSt} {σ : zSt} (h : (zQ [10, 11, 12, 45] [] [] []) σ0 σ) : zpc (fX3_dotAt_30 σ) (fun r => (zQ [10, 11, 12, 45] [] [] []) σ0 (r.1)) := by
  unfold fX3_dotAt_30
  exact fn_fX3_dotAt_31 h
theorem fn_fX3_dotAt {σ0 : zSt} {σ : zSt} {x1 : Int32} {x2 : Int32} (h : (zQ [10, 11, 12, 45] [] [] []) σ0 σ) : zpc (fX3_dotAt σ x1 x2) (fun r => (zQ [10, 11, 12, 45] [] [] []) σ0 (r.1)) := by
  unfold fX3_dotAt
  exact zpc_bi (fn_fX3_placeOf h) (fun σ1 v2 hσ1 => zpc_bv (fun v3 _ => zpc_if (fun _ => fn_fX3_dotAt_30 hσ1) (fun _ => zpc_if (fun _ => fn_fX3_dotAt_30 hσ1) (fun _ => zpc_ck (fn_fX3_dotAt_31 hσ1)))))
theorem fn_fX3_sumOfLine_31_body {σ0 : zSt} {k31 : zSt → Int32 → Int32 → Int32 → Option (zSt × Int32)} (hk31 : ∀ (y0 : zSt) (y1 : Int32) (y2 : Int32) (y3 : Int32), (zQ [10, 11, 12, 45] [] [] []) σ0 y0 → zpc (k31 y0 y1 y2 y3) (fun r => (zQ [10, 11, 12, 45] [] [] []) σ0 (r.1))) {σ : zSt} {x2 : Int32} {x4 : Int32} {x5 : Int32} (h : (zQ [10, 11, 12, 45] [] [] []) σ0 σ) : zpc (fX3_sumOfLine_31_body k31 σ x2 x4 x5) (fun r => (zQ [10, 11, 12, 45] [] [] []) σ0 (r.1)) := by
  unfold fX3_sumOfLine_31_body
  exact zpc_if (fun _ => zpc_some h) (fun _ => zpc_ck (zpc_bv (fun v1 _ => zpc_bv (fun v2 _ => hk31 _ _ _ _ h))))
theorem fn_fX3_sumOfLine_31 {σ0 : zSt} : ∀ (n : Nat) (y0 : zSt) (y1 : Int32) (y2 : Int32) (y3 : Int32), (zQ [10, 11, 12, 45] [] [] []) σ0 y0 → zpc (fX3_sumOfLine_31 n y0 y1 y2 y3) (fun r => (zQ [10, 11, 12, 45] [] [] []) σ0 (r.1)) := by
  intro n
  induction n with
  | zero => intro y0 y1 y2 y3 h; exact zpc_none
  | succ n ih => intro y0 y1 y2 y3 h; exact fn_fX3_sumOfLine_31_body ih h
theorem fn_fX3_sumOfLine {σ0 : zSt} {σ : zSt} {x1 : Int32} (h : (zQ [10, 11, 12, 45] [] [] []) σ0 σ) : zpc (fX3_sumOfLine σ x1) (fun r => (zQ [10, 11, 12, 45] [] [] []) σ0 (r.1)) := by
  unfold fX3_sumOfLine
  exact zpc_bi (fn_fX3_placeOf h) (fun σ3 v4 hσ3 => zpc_bi (fn_fX3_width hσ3) (fun σ5 v6 hσ5 => zpc_bv (fun v7 _ => zpc_bv (fun v8 _ => fn_fX3_sumOfLine_31 _ _ _ _ _ hσ5))))
theorem fn_fX9_held_20 {σ0 : zSt} {σ : zSt} {s0 : Int32} (h : (zQ [10, 11, 12, 45] [] [] []) σ0 σ) : zpc (fX9_held_20 σ s0) (fun r => (zQ [10, 11, 12, 45] [] [] []) σ0 (r.1)) := by
  unfold fX9_held_20
  exact zpc_some h
theorem fn_fX9_held_19 {σ0 : zSt} {σ : zSt} (h : (zQ [10, 11, 12, 45] [] [] []) σ0 σ) : zpc (fX9_held_19 σ) (fun r => (zQ [10, 11, 12, 45] [] [] []) σ0 (r.1)) := by
  unfold fX9_held_19
  exact fn_fX9_held_20 h
theorem fn_fX9_held {σ0 : zSt} {σ : zSt} {x1 : Int32} (h : (zQ [10, 11, 12, 45] [] [] []) σ0 σ) : zpc (fX9_held σ x1) (fun r => (zQ [10, 11, 12, 45] [] [] []) σ0 (r.1)) := by
  unfold fX9_held
  exact zpc_if (fun _ => fn_fX9_held_19 h) (fun _ => zpc_if (fun _ => fn_fX9_held_19 h) (fun _ => zpc_ck (fn_fX9_held_20 h)))
theorem fn_fX9_mode_57 {σ0 : zSt} {σ : zSt} {s0 : Int32} (h : (zQ [10, 11, 12, 45] [] [] []) σ0 σ) : zpc (fX9_mode_57 σ s0) (fun r => (zQ [10, 11, 12, 45] [] [] []) σ0 (r.1)) := by
  unfold fX9_mode_57
  exact zpc_some h
theorem fn_fX9_mode {σ0 : zSt} {σ : zSt} (h : (zQ [10, 11, 12, 45] [] [] []) σ0 σ) : zpc (fX9_mode σ) (fun r => (zQ [10, 11, 12, 45] [] [] []) σ0 (r.1)) := by
  unfold fX9_mode
  exact zpc_ck (zpc_if (fun _ => zpc_ck (zpc_if (fun _ => zpc_ck (zpc_if (fun _ => zpc_ck (zpc_if (fun _ => fn_fX9_mode_57 h) (fun _ => fn_fX9_mode_57 h))) (fun _ => zpc_some h))) (fun _ => zpc_some h))) (fun _ => zpc_some h))
theorem fn_fX4_value_20 {σ0 : zSt} {σ : zSt} {s0 : Int32} (h : (zQ [10, 11, 12, 45] [] [] []) σ0 σ) : zpc (fX4_value_20 σ s0) (fun r => (zQ [10, 11, 12, 45] [] [] []) σ0 (r.1)) := by
  unfold fX4_value_20
  exact zpc_some h
theorem fn_fX4_value_19 {σ0 : zSt} {σ : zSt} (h : (zQ [10, 11, 12, 45] [] [] []) σ0 σ) : zpc (fX4_value_19 σ) (fun r => (zQ [10, 11, 12, 45] [] [] []) σ0 (r.1)) := by
  unfold fX4_value_19
  exact fn_fX4_value_20 h
theorem fn_fX4_value {σ0 : zSt} {σ : zSt} {x1 : Int32} (h : (zQ [10, 11, 12, 45] [] [] []) σ0 σ) : zpc (fX4_value σ x1) (fun r => (zQ [10, 11, 12, 45] [] [] []) σ0 (r.1)) := by
  unfold fX4_value
  exact zpc_if (fun _ => fn_fX4_value_19 h) (fun _ => zpc_if (fun _ => fn_fX4_value_19 h) (fun _ => zpc_ck (fn_fX4_value_20 h)))
theorem fn_fX9_hCount_27 {σ0 : zSt} {σ : zSt} {s0 : Int32} (h : (zQ [10, 11, 12, 45] [] [] []) σ0 σ) : zpc (fX9_hCount_27 σ s0) (fun r => (zQ [10, 11, 12, 45] [] [] []) σ0 (r.1)) := by
  unfold fX9_hCount_27
  exact zpc_some h
theorem fn_fX9_hCount {σ0 : zSt} {σ : zSt} (h : (zQ [10, 11, 12, 45] [] [] []) σ0 σ) : zpc (fX9_hCount σ) (fun r => (zQ [10, 11, 12, 45] [] [] []) σ0 (r.1)) := by
  unfold fX9_hCount
  exact zpc_ck (zpc_ck (zpc_bv (fun v1 _ => zpc_if (fun _ => fn_fX9_hCount_27 h) (fun _ => fn_fX9_hCount_27 h))))
theorem fn_fX10_value_11 {σ0 : zSt} {σ : zSt} (h : (zQ [10, 11, 12, 45] [] [] []) σ0 σ) : zpc (fX10_value_11 σ) (fun r => (zQ [10, 11, 12, 45] [] [] []) σ0 (r.1)) := by
  unfold fX10_value_11
  exact zpc_some h
theorem fn_fX10_value_38 {σ0 : zSt} {σ : zSt} {s0 : Int32} (h : (zQ [10, 11, 12, 45] [] [] []) σ0 σ) : zpc (fX10_value_38 σ s0) (fun r => (zQ [10, 11, 12, 45] [] [] []) σ0 (r.1)) := by
  unfold fX10_value_38
  exact zpc_some h
theorem fn_fX10_value {σ0 : zSt} {σ : zSt} {x1 : Int32} (h : (zQ [10, 11, 12, 45] [] [] []) σ0 σ) : zpc (fX10_value σ x1) (fun r => (zQ [10, 11, 12, 45] [] [] []) σ0 (r.1)) := by
  unfold fX10_value
  exact zpc_if (fun _ => fn_fX10_value_11 h) (fun _ => zpc_if (fun _ => zpc_if (fun _ => zpc_ck (fn_fX10_value_38 h)) (fun _ => zpc_ck (fn_fX10_value_38 h))) (fun _ => fn_fX10_value_11 h))
theorem fn_fX9_vCount_137 {σ0 : zSt} {σ : zSt} {s0 : Int32} (h : (zQ [10, 11, 12, 45] [] [] []) σ0 σ) : zpc (fX9_vCount_137 σ s0) (fun r => (zQ [10, 11, 12, 45] [] [] []) σ0 (r.1)) := by
  unfold fX9_vCount_137
  exact zpc_some h
theorem fn_fX9_vCount_136 {σ0 : zSt} {σ : zSt} {s0 : Int32} {s1 : Int32} (h : (zQ [10, 11, 12, 45] [] [] []) σ0 σ) : zpc (fX9_vCount_136 σ s0 s1) (fun r => (zQ [10, 11, 12, 45] [] [] []) σ0 (r.1)) := by
  unfold fX9_vCount_136
  exact fn_fX9_vCount_137 h
theorem fn_fX9_vCount_97 {σ0 : zSt} {σ : zSt} {x2 : Int32} {x3 : Int32} (h : (zQ [10, 11, 12, 45] [] [] []) σ0 σ) : zpc (fX9_vCount_97 σ x2 x3) (fun r => (zQ [10, 11, 12, 45] [] [] []) σ0 (r.1)) := by
  unfold fX9_vCount_97
  exact zpc_ck (zpc_if (fun _ => zpc_ck (zpc_if (fun _ => fn_fX9_vCount_136 h) (fun _ => fn_fX9_vCount_136 h))) (fun _ => zpc_ck (fn_fX9_vCount_137 h)))
theorem fn_fX9_vCount_96 {σ0 : zSt} {σ : zSt} {x2 : Int32} {s0 : Int32} (h : (zQ [10, 11, 12, 45] [] [] []) σ0 σ) : zpc (fX9_vCount_96 σ x2 s0) (fun r => (zQ [10, 11, 12, 45] [] [] []) σ0 (r.1)) := by
  unfold fX9_vCount_96
  exact fn_fX9_vCount_97 h
theorem fn_fX9_vCount_78 {σ0 : zSt} {σ : zSt} {x2 : Int32} {s0 : Int32} (h : (zQ [10, 11, 12, 45] [] [] []) σ0 σ) : zpc (fX9_vCount_78 σ x2 s0) (fun r => (zQ [10, 11, 12, 45] [] [] []) σ0 (r.1)) := by
  unfold fX9_vCount_78
  exact fn_fX9_vCount_97 h
theorem fn_fX9_vCount_61 {σ0 : zSt} {σ : zSt} {x2 : Int32} {s0 : Int32} (h : (zQ [10, 11, 12, 45] [] [] []) σ0 σ) : zpc (fX9_vCount_61 σ x2 s0) (fun r => (zQ [10, 11, 12, 45] [] [] []) σ0 (r.1)) := by
  unfold fX9_vCount_61
  exact fn_fX9_vCount_97 h
theorem fn_fX9_vCount_20 {σ0 : zSt} {σ : zSt} {x1 : Int32} {s0 : Int32} (h : (zQ [10, 11, 12, 45] [] [] []) σ0 σ) : zpc (fX9_vCount_20 σ x1 s0) (fun r => (zQ [10, 11, 12, 45] [] [] []) σ0 (r.1)) := by
  unfold fX9_vCount_20
  exact zpc_if (fun _ => zpc_if (fun _ => fn_fX9_vCount_61 h) (fun _ => fn_fX9_vCount_61 h)) (fun _ => zpc_if (fun _ => zpc_if (fun _ => fn_fX9_vCount_78 h) (fun _ => fn_fX9_vCount_78 h)) (fun _ => zpc_if (fun _ => fn_fX9_vCount_96 h) (fun _ => fn_fX9_vCount_96 h)))
theorem fn_fX9_vCount {σ0 : zSt} {σ : zSt} (h : (zQ [10, 11, 12, 45] [] [] []) σ0 σ) : zpc (fX9_vCount σ) (fun r => (zQ [10, 11, 12, 45] [] [] []) σ0 (r.1)) := by
  unfold fX9_vCount
  exact zpc_bi (fn_fX9_height h) (fun σ1 v2 hσ1 => zpc_if (fun _ => fn_fX9_vCount_20 hσ1) (fun _ => fn_fX9_vCount_20 hσ1))
theorem fn_fX5_value_20 {σ0 : zSt} {σ : zSt} {s0 : Int32} (h : (zQ [10, 11, 12, 45] [] [] []) σ0 σ) : zpc (fX5_value_20 σ s0) (fun r => (zQ [10, 11, 12, 45] [] [] []) σ0 (r.1)) := by
  unfold fX5_value_20
  exact zpc_some h
theorem fn_fX5_value_19 {σ0 : zSt} {σ : zSt} (h : (zQ [10, 11, 12, 45] [] [] []) σ0 σ) : zpc (fX5_value_19 σ) (fun r => (zQ [10, 11, 12, 45] [] [] []) σ0 (r.1)) := by
  unfold fX5_value_19
  exact fn_fX5_value_20 h
theorem fn_fX5_value {σ0 : zSt} {σ : zSt} {x1 : Int32} (h : (zQ [10, 11, 12, 45] [] [] []) σ0 σ) : zpc (fX5_value σ x1) (fun r => (zQ [10, 11, 12, 45] [] [] []) σ0 (r.1)) := by
  unfold fX5_value
  exact zpc_if (fun _ => fn_fX5_value_19 h) (fun _ => zpc_if (fun _ => fn_fX5_value_19 h) (fun _ => zpc_ck (fn_fX5_value_20 h)))
theorem fn_fX5_meansPlace_97 {σ0 : zSt} {σ : zSt} {s0 : Int32} (h : (zQ [10, 11, 12, 45] [] [] []) σ0 σ) : zpc (fX5_meansPlace_97 σ s0) (fun r => (zQ [10, 11, 12, 45] [] [] []) σ0 (r.1)) := by
  unfold fX5_meansPlace_97
  exact zpc_ck (zpc_some h)
theorem fn_fX5_meansPlace_86 {σ0 : zSt} {σ : zSt} {s0 : Int32} (h : (zQ [10, 11, 12, 45] [] [] []) σ0 σ) : zpc (fX5_meansPlace_86 σ s0) (fun r => (zQ [10, 11, 12, 45] [] [] []) σ0 (r.1)) := by
  unfold fX5_meansPlace_86
  exact zpc_ck (zpc_some h)
theorem fn_fX5_meansPlace_85 {σ0 : zSt} {σ : zSt} (h : (zQ [10, 11, 12, 45] [] [] []) σ0 σ) : zpc (fX5_meansPlace_85 σ) (fun r => (zQ [10, 11, 12, 45] [] [] []) σ0 (r.1)) := by
  unfold fX5_meansPlace_85
  exact fn_fX5_meansPlace_86 h
theorem fn_fX5_meansPlace_29 {σ0 : zSt} {σ : zSt} {x0 : Int32} {x1 : Int32} {s0 : Int32} (h : (zQ [10, 11, 12, 45] [] [] []) σ0 σ) : zpc (fX5_meansPlace_29 σ x0 x1 s0) (fun r => (zQ [10, 11, 12, 45] [] [] []) σ0 (r.1)) := by
  unfold fX5_meansPlace_29
  exact zpc_if (fun _ => zpc_if (fun _ => fn_fX5_meansPlace_85 h) (fun _ => zpc_if (fun _ => fn_fX5_meansPlace_85 h) (fun _ => zpc_if (fun _ => fn_fX5_meansPlace_85 h) (fun _ => fn_fX5_meansPlace_86 h)))) (fun _ => zpc_if (fun _ => zpc_if (fun _ => fn_fX5_meansPlace_97 h) (fun _ => fn_fX5_meansPlace_97 h)) (fun _ => zpc_if (fun _ => zpc_ck (zpc_some h)) (fun _ => zpc_ck (zpc_some h))))
theorem fn_fX5_meansPlace_14 {σ0 : zSt} {σ : zSt} {x0 : Int32} {s0 : Int32} (h : (zQ [10, 11, 12, 45] [] [] []) σ0 σ) : zpc (fX5_meansPlace_14 σ x0 s0) (fun r => (zQ [10, 11, 12, 45] [] [] []) σ0 (r.1)) := by
  unfold fX5_meansPlace_14
  exact zpc_if (fun _ => fn_fX5_meansPlace_29 h) (fun _ => fn_fX5_meansPlace_29 h)
theorem fn_fX5_meansPlace {σ0 : zSt} {σ : zSt} {x0 : Int32} (h : (zQ [10, 11, 12, 45] [] [] []) σ0 σ) : zpc (fX5_meansPlace σ x0) (fun r => (zQ [10, 11, 12, 45] [] [] []) σ0 (r.1)) := by
  unfold fX5_meansPlace
  exact zpc_if (fun _ => fn_fX5_meansPlace_14 h) (fun _ => fn_fX5_meansPlace_14 h)
theorem fn_fX6_size_k11 {σ0 : zSt} {σ : zSt} (h : (zQ [10, 11, 12, 45] [] [] []) σ0 σ) : zpc (fX6_size_k11 σ) (fun r => (zQ [10, 11, 12, 45] [] [] []) σ0 (r.1)) := by
  unfold fX6_size_k11
  exact zpc_some h
theorem fn_fX6_size_k12 {σ0 : zSt} {σ : zSt} (h : (zQ [10, 11, 12, 45] [] [] []) σ0 σ) : zpc (fX6_size_k12 σ) (fun r => (zQ [10, 11, 12, 45] [] [] []) σ0 (r.1)) := by
  unfold fX6_size_k12
  exact zpc_some h
theorem fn_fX6_takeFirst_k11 {σ0 : zSt} {σ : zSt} (h : (zQ [10, 11, 12, 45] [] [] []) σ0 σ) : zpc (fX6_takeFirst_k11 σ) (fun r => (zQ [10, 11, 12, 45] [] [] []) σ0 (r.1)) := by
  unfold fX6_takeFirst_k11
  exact zpc_if (fun _ => zpc_some h) (fun _ => zpc_ck (zpc_bv (fun v1 _ => zpc_bs (zQ.wi h rfl) (fun σ2 hσ2 => zpc_bs (zQ.wi hσ2 rfl) (fun σ3 hσ3 => zpc_some hσ3)))))
theorem fn_fX6_takeFirst_k12 {σ0 : zSt} {σ : zSt} (h : (zQ [10, 11, 12, 45] [] [] []) σ0 σ) : zpc (fX6_takeFirst_k12 σ) (fun r => (zQ [10, 11, 12, 45] [] [] []) σ0 (r.1)) := by
  unfold fX6_takeFirst_k12
  exact zpc_if (fun _ => zpc_some h) (fun _ => zpc_ck (zpc_bv (fun v1 _ => zpc_bs (zQ.wi h rfl) (fun σ2 hσ2 => zpc_bs (zQ.wi hσ2 rfl) (fun σ3 hσ3 => zpc_some hσ3)))))
theorem fn_fX7_value_20 {σ0 : zSt} {σ : zSt} {s0 : Int32} (h : (zQ [10, 11, 12, 45] [] [] []) σ0 σ) : zpc (fX7_value_20 σ s0) (fun r => (zQ [10, 11, 12, 45] [] [] []) σ0 (r.1)) := by
  unfold fX7_value_20
  exact zpc_some h
theorem fn_fX7_value_19 {σ0 : zSt} {σ : zSt} (h : (zQ [10, 11, 12, 45] [] [] []) σ0 σ) : zpc (fX7_value_19 σ) (fun r => (zQ [10, 11, 12, 45] [] [] []) σ0 (r.1)) := by
  unfold fX7_value_19
  exact fn_fX7_value_20 h
theorem fn_fX7_value {σ0 : zSt} {σ : zSt} {x1 : Int32} (h : (zQ [10, 11, 12, 45] [] [] []) σ0 σ) : zpc (fX7_value σ x1) (fun r => (zQ [10, 11, 12, 45] [] [] []) σ0 (r.1)) := by
  unfold fX7_value
  exact zpc_if (fun _ => fn_fX7_value_19 h) (fun _ => zpc_if (fun _ => fn_fX7_value_19 h) (fun _ => zpc_ck (fn_fX7_value_20 h)))
theorem fn_fX8_take {σ0 : zSt} {σ : zSt} (h : (zQ [10, 11, 12, 45] [] [] []) σ0 σ) : zpc (fX8_take σ) (fun r => (zQ [10, 11, 12, 45] [] [] []) σ0 (r.1)) := by
  unfold fX8_take
  exact zpc_bi (fn_fX2_read h) (fun σ1 v2 hσ1 => zpc_bs (zQ.wi hσ1 rfl) (fun σ3 hσ3 => zpc_some hσ3))
theorem fn_fX8_putSign_29 {σ0 : zSt} {σ : zSt} (h : (zQ [10, 11, 12, 45] [] [] []) σ0 σ) : zpc (fX8_putSign_29 σ) (fun r => (zQ [10, 11, 12, 45] [] [] []) σ0 (r)) := by
  unfold fX8_putSign_29
  exact zpc_some h
theorem fn_fX8_putSign {σ0 : zSt} {σ : zSt} {x1 : Int32} (h : (zQ [10, 11, 12, 45] [] [] []) σ0 σ) : zpc (fX8_putSign σ x1) (fun r => (zQ [10, 11, 12, 45] [] [] []) σ0 (r)) := by
  unfold fX8_putSign
  exact zpc_if (fun _ => fn_fX8_putSign_29 h) (fun _ => zpc_ck (zpc_bs (zQ.wi h rfl) (fun σ1 hσ1 => zpc_bs (zQ.wi hσ1 rfl) (fun σ2 hσ2 => fn_fX8_putSign_29 hσ2))))
theorem fn_fX8_putByte {σ0 : zSt} {σ : zSt} {x1 : Int32} (h : (zQ [10, 11, 12, 45] [] [] []) σ0 σ) : zpc (fX8_putByte σ x1) (fun r => (zQ [10, 11, 12, 45] [] [] []) σ0 (r)) := by
  unfold fX8_putByte
  exact zpc_ck (zpc_ck (zpc_bu (fn_fX8_putSign h) (fun σ1 hσ1 => zpc_ck (zpc_ck (zpc_bu (fn_fX8_putSign hσ1) (fun σ2 hσ2 => zpc_some hσ2))))))
theorem fn_fX8_putWord {σ0 : zSt} {σ : zSt} {x1 : Int32} (h : (zQ [10, 11, 12, 45] [] [] []) σ0 σ) : zpc (fX8_putWord σ x1) (fun r => (zQ [10, 11, 12, 45] [] [] []) σ0 (r)) := by
  unfold fX8_putWord
  exact zpc_bu (fn_fX8_putByte h) (fun σ1 hσ1 => zpc_bu (fn_fX8_putByte hσ1) (fun σ2 hσ2 => zpc_some hσ2))
theorem fn_fX8_putHl_35 {σ0 : zSt} {σ : zSt} {s0 : Int32} (h : (zQ [10, 11, 12, 45] [] [] []) σ0 σ) : zpc (fX8_putHl_35 σ s0) (fun r => (zQ [10, 11, 12, 45] [] [] []) σ0 (r)) := by
  unfold fX8_putHl_35
  exact zpc_bu (fn_fX8_putSign h) (fun σ1 hσ1 => zpc_some hσ1)
theorem fn_fX8_putHl_15 {σ0 : zSt} {σ : zSt} {s0 : Int32} (h : (zQ [10, 11, 12, 45] [] [] []) σ0 σ) : zpc (fX8_putHl_15 σ s0) (fun r => (zQ [10, 11, 12, 45] [] [] []) σ0 (r)) := by
  unfold fX8_putHl_15
  exact zpc_bu (fn_fX8_putSign h) (fun σ2 hσ2 => zpc_if (fun _ => fn_fX8_putHl_35 hσ2) (fun _ => fn_fX8_putHl_35 hσ2))
theorem fn_fX8_putHl {σ0 : zSt} {σ : zSt} (h : (zQ [10, 11, 12, 45] [] [] []) σ0 σ) : zpc (fX8_putHl σ) (fun r => (zQ [10, 11, 12, 45] [] [] []) σ0 (r)) := by
  unfold fX8_putHl
  exact zpc_if (fun _ => fn_fX8_putHl_15 h) (fun _ => fn_fX8_putHl_15 h)
theorem fn_fX8_putPlace_45 {σ0 : zSt} {σ : zSt} {s0 : Int32} (h : (zQ [10, 11, 12, 45] [] [] []) σ0 σ) : zpc (fX8_putPlace_45 σ s0) (fun r => (zQ [10, 11, 12, 45] [] [] []) σ0 (r)) := by
  unfold fX8_putPlace_45
  exact zpc_bu (fn_fX8_putByte h) (fun σ1 hσ1 => zpc_bu (fn_fX8_putSign hσ1) (fun σ2 hσ2 => zpc_some hσ2))
theorem fn_fX8_putPlace_25 {σ0 : zSt} {σ : zSt} {x1 : Int32} {s0 : Int32} (h : (zQ [10, 11, 12, 45] [] [] []) σ0 σ) : zpc (fX8_putPlace_25 σ x1 s0) (fun r => (zQ [10, 11, 12, 45] [] [] []) σ0 (r)) := by
  unfold fX8_putPlace_25
  exact zpc_bu (fn_fX8_putSign h) (fun σ3 hσ3 => zpc_if (fun _ => fn_fX8_putPlace_45 hσ3) (fun _ => fn_fX8_putPlace_45 hσ3))
theorem fn_fX8_putPlace {σ0 : zSt} {σ : zSt} {x1 : Int32} (h : (zQ [10, 11, 12, 45] [] [] []) σ0 σ) : zpc (fX8_putPlace σ x1) (fun r => (zQ [10, 11, 12, 45] [] [] []) σ0 (r)) := by
  unfold fX8_putPlace
  exact zpc_bu (fn_fX8_putSign h) (fun σ4 hσ4 => zpc_bu (fn_fX8_putHl hσ4) (fun σ5 hσ5 => zpc_if (fun _ => fn_fX8_putPlace_25 hσ5) (fun _ => fn_fX8_putPlace_25 hσ5)))
theorem fn_fX8_putName_46 {σ0 : zSt} {k5 : zSt → Nat → Int32 → Int32 → Int32 → Option (zSt)} (hk5 : ∀ (y0 : zSt) (y1 : Nat) (y2 : Int32) (y3 : Int32) (y4 : Int32), (zQ [10, 11, 12, 45] [] [] []) σ0 y0 → zpc (k5 y0 y1 y2 y3 y4) (fun r => (zQ [10, 11, 12, 45] [] [] []) σ0 (r))) {σ : zSt} {n1 : Nat} {x2 : Int32} {x3 : Int32} {x4 : Int32} (h : (zQ [10, 11, 12, 45] [] [] []) σ0 σ) : zpc (fX8_putName_46 k5 σ n1 x2 x3 x4) (fun r => (zQ [10, 11, 12, 45] [] [] []) σ0 (r)) := by
  unfold fX8_putName_46
  exact zpc_bv (fun v1 _ => hk5 _ _ _ _ _ h)
theorem fn_fX8_putName_5_body {σ0 : zSt} {k5 : zSt → Nat → Int32 → Int32 → Int32 → Option (zSt)} (hk5 : ∀ (y0 : zSt) (y1 : Nat) (y2 : Int32) (y3 : Int32) (y4 : Int32), (zQ [10, 11, 12, 45] [] [] []) σ0 y0 → zpc (k5 y0 y1 y2 y3 y4) (fun r => (zQ [10, 11, 12, 45] [] [] []) σ0 (r))) {σ : zSt} {n1 : Nat} {x2 : Int32} {x3 : Int32} {x4 : Int32} (h : (zQ [10, 11, 12, 45] [] [] []) σ0 σ) : zpc (fX8_putName_5_body k5 σ n1 x2 x3 x4) (fun r => (zQ [10, 11, 12, 45] [] [] []) σ0 (r)) := by
  unfold fX8_putName_5_body
  exact zpc_ck (zpc_if (fun _ => zpc_some h) (fun _ => zpc_ck (zpc_ck (zpc_if (fun _ => zpc_bv (fun v3 _ => fn_fX8_putName_46 hk5 h)) (fun _ => zpc_if (fun _ => zpc_ck (zpc_ck (zpc_bu (fn_fX8_putSign h) (fun σ2 hσ2 => fn_fX8_putName_46 hk5 hσ2)))) (fun _ => fn_fX8_putName_46 hk5 h))))))
theorem fn_fX8_putName_5 {σ0 : zSt} : ∀ (n : Nat) (y0 : zSt) (y1 : Nat) (y2 : Int32) (y3 : Int32) (y4 : Int32), (zQ [10, 11, 12, 45] [] [] []) σ0 y0 → zpc (fX8_putName_5 n y0 y1 y2 y3 y4) (fun r => (zQ [10, 11, 12, 45] [] [] []) σ0 (r)) := by
  intro n
  induction n with
  | zero => intro y0 y1 y2 y3 y4 h; exact zpc_none
  | succ n ih => intro y0 y1 y2 y3 y4 h; exact fn_fX8_putName_5_body ih h
theorem fn_fX8_putName {σ0 : zSt} {σ : zSt} {n1 : Nat} {x2 : Int32} (h : (zQ [10, 11, 12, 45] [] [] []) σ0 σ) : zpc (fX8_putName σ n1 x2) (fun r => (zQ [10, 11, 12, 45] [] [] []) σ0 (r)) := by
  unfold fX8_putName
  exact fn_fX8_putName_5 _ _ _ _ _ _ h
theorem fn_fX8_putOne_78 {σ0 : zSt} {σ : zSt} (h : (zQ [10, 11, 12, 45] [] [] []) σ0 σ) : zpc (fX8_putOne_78 σ) (fun r => (zQ [10, 11, 12, 45] [] [] []) σ0 (r)) := by
  unfold fX8_putOne_78
  exact zpc_some h
theorem fn_fX8_putOne_71 {σ0 : zSt} {σ : zSt} {x1 : Int32} (h : (zQ [10, 11, 12, 45] [] [] []) σ0 σ) : zpc (fX8_putOne_71 σ x1) (fun r => (zQ [10, 11, 12, 45] [] [] []) σ0 (r)) := by
  unfold fX8_putOne_71
  exact zpc_bu (fn_fX8_putName h) (fun σ1 hσ1 => fn_fX8_putOne_78 hσ1)
theorem fn_fX8_putOne_65 {σ0 : zSt} {σ : zSt} {s0 : Int32} (h : (zQ [10, 11, 12, 45] [] [] []) σ0 σ) : zpc (fX8_putOne_65 σ s0) (fun r => (zQ [10, 11, 12, 45] [] [] []) σ0 (r)) := by
  unfold fX8_putOne_65
  exact zpc_bu (fn_fX8_putSign h) (fun σ2 hσ2 => fn_fX8_putOne_78 hσ2)
theorem fn_fX8_putOne_34 {σ0 : zSt} {σ : zSt} {x1 : Int32} (h : (zQ [10, 11, 12, 45] [] [] []) σ0 σ) : zpc (fX8_putOne_34 σ x1) (fun r => (zQ [10, 11, 12, 45] [] [] []) σ0 (r)) := by
  unfold fX8_putOne_34
  exact zpc_if (fun _ => fn_fX8_putOne_71 h) (fun _ => zpc_if (fun _ => zpc_bu (fn_fX8_putHl h) (fun σ3 hσ3 => zpc_if (fun _ => fn_fX8_putOne_65 hσ3) (fun _ => fn_fX8_putOne_65 hσ3))) (fun _ => fn_fX8_putOne_71 h))
theorem fn_fX8_putOne_24 {σ0 : zSt} {σ : zSt} {x1 : Int32} (h : (zQ [10, 11, 12, 45] [] [] []) σ0 σ) : zpc (fX8_putOne_24 σ x1) (fun r => (zQ [10, 11, 12, 45] [] [] []) σ0 (r)) := by
  unfold fX8_putOne_24
  exact zpc_if (fun _ => fn_fX8_putOne_34 h) (fun _ => zpc_if (fun _ => fn_fX8_putOne_34 h) (fun _ => fn_fX8_putOne_71 h))
theorem fn_fX8_putOne {σ0 : zSt} {σ : zSt} {x1 : Int32} (h : (zQ [10, 11, 12, 45] [] [] []) σ0 σ) : zpc (fX8_putOne σ x1) (fun r => (zQ [10, 11, 12, 45] [] [] []) σ0 (r)) := by
  unfold fX8_putOne
  exact zpc_if (fun _ => zpc_if (fun _ => fn_fX8_putOne_24 h) (fun _ => zpc_bi (fn_fX8_take h) (fun σ4 v5 hσ4 => zpc_bu (fn_fX8_putPlace hσ4) (fun σ6 hσ6 => fn_fX8_putOne_78 hσ6)))) (fun _ => fn_fX8_putOne_24 h)
theorem fn_fX8_putTurned_59 {σ0 : zSt} {σ : zSt} (h : (zQ [10, 11, 12, 45] [] [] []) σ0 σ) : zpc (fX8_putTurned_59 σ) (fun r => (zQ [10, 11, 12, 45] [] [] []) σ0 (r)) := by
  unfold fX8_putTurned_59
  exact zpc_some h
theorem fn_fX8_putTurned {σ0 : zSt} {σ : zSt} (h : (zQ [10, 11, 12, 45] [] [] []) σ0 σ) : zpc (fX8_putTurned σ) (fun r => (zQ [10, 11, 12, 45] [] [] []) σ0 (r)) := by
  unfold fX8_putTurned
  exact zpc_if (fun _ => zpc_bu (fn_fX8_putName h) (fun σ4 hσ4 => zpc_some hσ4)) (fun _ => zpc_bu (fn_fX8_putPlace h) (fun σ1 hσ1 => zpc_if (fun _ => fn_fX8_putTurned_59 hσ1) (fun _ => zpc_if (fun _ => fn_fX8_putTurned_59 hσ1) (fun _ => zpc_bu (fn_fX8_putSign hσ1) (fun σ2 hσ2 => zpc_bu (fn_fX8_putName hσ2) (fun σ3 hσ3 => fn_fX8_putTurned_59 hσ3))))))
theorem fn_fX8_putPair_28 {σ0 : zSt} {σ : zSt} (h : (zQ [10, 11, 12, 45] [] [] []) σ0 σ) : zpc (fX8_putPair_28 σ) (fun r => (zQ [10, 11, 12, 45] [] [] []) σ0 (r)) := by
  unfold fX8_putPair_28
  exact zpc_some h
theorem fn_fX8_putPair {σ0 : zSt} {σ : zSt} {n1 : Nat} (h : (zQ [10, 11, 12, 45] [] [] []) σ0 σ) : zpc (fX8_putPair σ n1) (fun r => (zQ [10, 11, 12, 45] [] [] []) σ0 (r)) := by
  unfold fX8_putPair
  exact zpc_if (fun _ => zpc_bu (fn_fX8_putHl h) (fun σ2 hσ2 => fn_fX8_putPair_28 hσ2)) (fun _ => zpc_bu (fn_fX8_putName h) (fun σ1 hσ1 => fn_fX8_putPair_28 hσ1))
theorem fn_fX8_putMeant_275 {σ0 : zSt} {σ : zSt} (h : (zQ [10, 11, 12, 45] [] [] []) σ0 σ) : zpc (fX8_putMeant_275 σ) (fun r => (zQ [10, 11, 12, 45] [] [] []) σ0 (r)) := by
  unfold fX8_putMeant_275
  exact zpc_some h
theorem fn_fX8_putMeant_256 {σ0 : zSt} {σ : zSt} (h : (zQ [10, 11, 12, 45] [] [] []) σ0 σ) : zpc (fX8_putMeant_256 σ) (fun r => (zQ [10, 11, 12, 45] [] [] []) σ0 (r)) := by
  unfold fX8_putMeant_256
  exact zpc_bi (fn_fX8_take h) (fun σ1 v2 hσ1 => zpc_bu (fn_fX8_putWord hσ1) (fun σ3 hσ3 => fn_fX8_putMeant_275 hσ3))
theorem fn_fX8_putMeant {σ0 : zSt} {σ : zSt} {x1 : Int32} (h : (zQ [10, 11, 12, 45] [] [] []) σ0 σ) : zpc (fX8_putMeant σ x1) (fun r => (zQ [10, 11, 12, 45] [] [] []) σ0 (r)) := by
  unfold fX8_putMeant
  exact zpc_if (fun _ => zpc_bu (fn_fX8_putSign h) (fun σ4 hσ4 => fn_fX8_putMeant_275 hσ4)) (fun _ => zpc_if (fun _ => zpc_bu (fn_fX8_putName h) (fun σ5 hσ5 => fn_fX8_putMeant_275 hσ5)) (fun _ => zpc_if (fun _ => zpc_bu (fn_fX8_putName h) (fun σ6 hσ6 => fn_fX8_putMeant_275 hσ6)) (fun _ => zpc_if (fun _ => fn_fX8_putMeant_256 h) (fun _ => zpc_if (fun _ => fn_fX8_putMeant_256 h) (fun _ => zpc_if (fun _ => fn_fX8_putMeant_256 h) (fun _ => zpc_if (fun _ => fn_fX8_putMeant_256 h) (fun _ => zpc_if (fun _ => fn_fX8_putMeant_256 h) (fun _ => zpc_if (fun _ => zpc_bu (fn_fX8_putHl h) (fun σ7 hσ7 => fn_fX8_putMeant_275 hσ7)) (fun _ => zpc_if (fun _ => fn_fX8_putMeant_256 h) (fun _ => zpc_if (fun _ => fn_fX8_putMeant_256 h) (fun _ => zpc_if (fun _ => fn_fX8_putMeant_256 h) (fun _ => zpc_if (fun _ => zpc_bi (fn_fX8_take h) (fun σ8 v9 hσ8 => zpc_bu (fn_fX8_putByte hσ8) (fun σ10 hσ10 => fn_fX8_putMeant_275 hσ10))) (fun _ => zpc_if (fun _ => fn_fX8_putMeant_256 h) (fun _ => zpc_if (fun _ => zpc_bu (fn_fX8_putPair h) (fun σ11 hσ11 => fn_fX8_putMeant_275 hσ11)) (fun _ => zpc_if (fun _ => zpc_bu (fn_fX8_putPair h) (fun σ12 hσ12 => fn_fX8_putMeant_275 hσ12)) (fun _ => zpc_if (fun _ => fn_fX8_putMeant_256 h) (fun _ => zpc_if (fun _ => fn_fX8_putMeant_256 h) (fun _ => zpc_if (fun _ => zpc_bu (fn_fX8_putTurned h) (fun σ13 hσ13 => fn_fX8_putMeant_275 hσ13)) (fun _ => zpc_if (fun _ => fn_fX8_putMeant_256 h) (fun _ => zpc_if (fun _ => zpc_bu (fn_fX8_putByte h) (fun σ14 hσ14 => fn_fX8_putMeant_275 hσ14)) (fun _ => zpc_if (fun _ => zpc_bi (fn_fX8_take h) (fun σ15 v16 hσ15 => zpc_bi (fn_fX8_take hσ15) (fun σ17 v18 hσ17 => zpc_bu (fn_fX8_putWord hσ17) (fun σ19 hσ19 => fn_fX8_putMeant_275 hσ19)))) (fun _ => zpc_if (fun _ => fn_fX8_putMeant_256 h) (fun _ => zpc_if (fun _ => zpc_bu (fn_fX8_putOne h) (fun σ20 hσ20 => fn_fX8_putMeant_275 hσ20)) (fun _ => zpc_if (fun _ => zpc_bu (fn_fX8_putOne h) (fun σ21 hσ21 => fn_fX8_putMeant_275 hσ21)) (fun _ => fn_fX8_putMeant_256 h)))))))))))))))))))))))))
theorem fn_fX8_put_28 {σ0 : zSt} {k4 : zSt → Nat → Int32 → Int32 → Option (zSt)} (hk4 : ∀ (y0 : zSt) (y1 : Nat) (y2 : Int32) (y3 : Int32), (zQ [10, 11, 12, 45] [] [] []) σ0 y0 → zpc (k4 y0 y1 y2 y3) (fun r => (zQ [10, 11, 12, 45] [] [] []) σ0 (r))) {σ : zSt} {n1 : Nat} {x3 : Int32} {s0 : Int32} {s1 : Int32} (h : (zQ [10, 11, 12, 45] [] [] []) σ0 σ) : zpc (fX8_put_28 k4 σ n1 x3 s0 s1) (fun r => (zQ [10, 11, 12, 45] [] [] []) σ0 (r)) := by
  unfold fX8_put_28
  exact zpc_bv (fun v1 _ => zpc_bv (fun v2 _ => hk4 _ _ _ _ h))
theorem fn_fX8_put_110 {σ0 : zSt} {k41 : zSt → Nat → Int32 → Int32 → Int32 → Option (zSt)} (hk41 : ∀ (y0 : zSt) (y1 : Nat) (y2 : Int32) (y3 : Int32) (y4 : Int32), (zQ [10, 11, 12, 45] [] [] []) σ0 y0 → zpc (k41 y0 y1 y2 y3 y4) (fun r => (zQ [10, 11, 12, 45] [] [] []) σ0 (r))) {σ : zSt} {n1 : Nat} {x2 : Int32} {x3 : Int32} {x4 : Int32} (h : (zQ [10, 11, 12, 45] [] [] []) σ0 σ) : zpc (fX8_put_110 k41 σ n1 x2 x3 x4) (fun r => (zQ [10, 11, 12, 45] [] [] []) σ0 (r)) := by
  unfold fX8_put_110
  exact zpc_bv (fun v3 _ => hk41 _ _ _ _ _ h)
theorem fn_fX8_put_104 {σ0 : zSt} {k41 : zSt → Nat → Int32 → Int32 → Int32 → Option (zSt)} (hk41 : ∀ (y0 : zSt) (y1 : Nat) (y2 : Int32) (y3 : Int32) (y4 : Int32), (zQ [10, 11, 12, 45] [] [] []) σ0 y0 → zpc (k41 y0 y1 y2 y3 y4) (fun r => (zQ [10, 11, 12, 45] [] [] []) σ0 (r))) {σ : zSt} {n1 : Nat} {x2 : Int32} {x3 : Int32} {x4 : Int32} {x5 : Int32} (h : (zQ [10, 11, 12, 45] [] [] []) σ0 σ) : zpc (fX8_put_104 k41 σ n1 x2 x3 x4 x5) (fun r => (zQ [10, 11, 12, 45] [] [] []) σ0 (r)) := by
  unfold fX8_put_104
  exact zpc_bu (fn_fX8_putSign h) (fun σ4 hσ4 => fn_fX8_put_110 hk41 hσ4)
theorem fn_fX8_put_41_body {σ0 : zSt} {k41 : zSt → Nat → Int32 → Int32 → Int32 → Option (zSt)} (hk41 : ∀ (y0 : zSt) (y1 : Nat) (y2 : Int32) (y3 : Int32) (y4 : Int32), (zQ [10, 11, 12, 45] [] [] []) σ0 y0 → zpc (k41 y0 y1 y2 y3 y4) (fun r => (zQ [10, 11, 12, 45] [] [] []) σ0 (r))) {σ : zSt} {n1 : Nat} {x2 : Int32} {x3 : Int32} {x4 : Int32} (h : (zQ [10, 11, 12, 45] [] [] []) σ0 σ) : zpc (fX8_put_41_body k41 σ n1 x2 x3 x4) (fun r => (zQ [10, 11, 12, 45] [] [] []) σ0 (r)) := by
  unfold fX8_put_41_body
  exact zpc_ck (zpc_if (fun _ => zpc_some h) (fun _ => zpc_ck (zpc_ck (zpc_bv (fun v5 _ => zpc_if (fun _ => zpc_bv (fun v7 _ => fn_fX8_put_110 hk41 h)) (fun _ => zpc_ck (zpc_if (fun _ => zpc_if (fun _ => fn_fX8_put_104 hk41 h) (fun _ => zpc_if (fun _ => fn_fX8_put_104 hk41 h) (fun _ => zpc_bu (fn_fX8_putMeant h) (fun σ6 hσ6 => fn_fX8_put_110 hk41 hσ6)))) (fun _ => fn_fX8_put_110 hk41 h))))))))
theorem fn_fX8_put_41 {σ0 : zSt} : ∀ (n : Nat) (y0 : zSt) (y1 : Nat) (y2 : Int32) (y3 : Int32) (y4 : Int32), (zQ [10, 11, 12, 45] [] [] []) σ0 y0 → zpc (fX8_put_41 n y0 y1 y2 y3 y4) (fun r => (zQ [10, 11, 12, 45] [] [] []) σ0 (r)) := by
  intro n
  induction n with
  | zero => intro y0 y1 y2 y3 y4 h; exact zpc_none
  | succ n ih => intro y0 y1 y2 y3 y4 h; exact fn_fX8_put_41_body ih h
theorem fn_fX8_put_4_body {σ0 : zSt} {k4 : zSt → Nat → Int32 → Int32 → Option (zSt)} (hk4 : ∀ (y0 : zSt) (y1 : Nat) (y2 : Int32) (y3 : Int32), (zQ [10, 11, 12, 45] [] [] []) σ0 y0 → zpc (k4 y0 y1 y2 y3) (fun r => (zQ [10, 11, 12, 45] [] [] []) σ0 (r))) {σ : zSt} {n1 : Nat} {x2 : Int32} {x3 : Int32} (h : (zQ [10, 11, 12, 45] [] [] []) σ0 σ) : zpc (fX8_put_4_body k4 σ n1 x2 x3) (fun r => (zQ [10, 11, 12, 45] [] [] []) σ0 (r)) := by
  unfold fX8_put_4_body
  exact zpc_ck (zpc_if (fun _ => fn_fX8_put_41 _ _ _ _ _ _ h) (fun _ => zpc_ck (zpc_ck (zpc_if (fun _ => fn_fX8_put_28 hk4 h) (fun _ => fn_fX8_put_28 hk4 h)))))
theorem fn_fX8_put_4 {σ0 : zSt} : ∀ (n : Nat) (y0 : zSt) (y1 : Nat) (y2 : Int32) (y3 : Int32), (zQ [10, 11, 12, 45] [] [] []) σ0 y0 → zpc (fX8_put_4 n y0 y1 y2 y3) (fun r => (zQ [10, 11, 12, 45] [] [] []) σ0 (r)) := by
  intro n
  induction n with
  | zero => intro y0 y1 y2 y3 h; exact zpc_none
  | succ n ih => intro y0 y1 y2 y3 h; exact fn_fX8_put_4_body ih h
theorem fn_fX8_put {σ0 : zSt} {σ : zSt} {n1 : Nat} (h : (zQ [10, 11, 12, 45] [] [] []) σ0 σ) : zpc (fX8_put σ n1) (fun r => (zQ [10, 11, 12, 45] [] [] []) σ0 (r)) := by
  unfold fX8_put
  exact fn_fX8_put_4 _ _ _ _ _ h
theorem fn_fX8_split {σ0 : zSt} {σ : zSt} {x1 : Int32} (h : (zQ [10, 11, 12, 45] [] [] []) σ0 σ) : zpc (fX8_split σ x1) (fun r => (zQ [10, 11, 12, 45] [] [] []) σ0 (r)) := by
  unfold fX8_split
  exact zpc_bs (zQ.wi h rfl) (fun σ1 hσ1 => zpc_bs (zQ.wi hσ1 rfl) (fun σ2 hσ2 => zpc_bs (zQ.wi hσ2 rfl) (fun σ3 hσ3 => zpc_some hσ3)))
theorem fn_fX8_turnPatterns {σ0 : zSt} {σ : zSt} (h : (zQ [10, 11, 12, 45] [] [] []) σ0 σ) : zpc (fX8_turnPatterns σ) (fun r => (zQ [10, 11, 12, 45] [] [] []) σ0 (r.1)) := by
  unfold fX8_turnPatterns
  exact zpc_if (fun _ => zpc_some h) (fun _ => zpc_if (fun _ => zpc_some h) (fun _ => zpc_if (fun _ => zpc_some h) (fun _ => zpc_some h)))
theorem fn_fX8_blockPatterns_17 {σ0 : zSt} {σ : zSt} {s0 : Int32} (h : (zQ [10, 11, 12, 45] [] [] []) σ0 σ) : zpc (fX8_blockPatterns_17 σ s0) (fun r => (zQ [10, 11, 12, 45] [] [] []) σ0 (r.1)) := by
  unfold fX8_blockPatterns_17
  exact zpc_if (fun _ => zpc_some h) (fun _ => zpc_if (fun _ => zpc_some h) (fun _ => zpc_if (fun _ => zpc_some h) (fun _ => zpc_if (fun _ => zpc_some h) (fun _ => zpc_some h))))
theorem fn_fX8_blockPatterns {σ0 : zSt} {σ : zSt} (h : (zQ [10, 11, 12, 45] [] [] []) σ0 σ) : zpc (fX8_blockPatterns σ) (fun r => (zQ [10, 11, 12, 45] [] [] []) σ0 (r.1)) := by
  unfold fX8_blockPatterns
  exact zpc_if (fun _ => fn_fX8_blockPatterns_17 h) (fun _ => fn_fX8_blockPatterns_17 h)
theorem fn_fX8_morePatterns_114 {σ0 : zSt} {σ : zSt} {s0 : Nat} (h : (zQ [10, 11, 12, 45] [] [] []) σ0 σ) : zpc (fX8_morePatterns_114 σ s0) (fun r => (zQ [10, 11, 12, 45] [] [] []) σ0 (r.1)) := by
  unfold fX8_morePatterns_114
  exact zpc_some h
theorem fn_fX8_morePatterns_89 {σ0 : zSt} {σ : zSt} {s0 : Nat} (h : (zQ [10, 11, 12, 45] [] [] []) σ0 σ) : zpc (fX8_morePatterns_89 σ s0) (fun r => (zQ [10, 11, 12, 45] [] [] []) σ0 (r.1)) := by
  unfold fX8_morePatterns_89
  exact zpc_some h
theorem fn_fX8_morePatterns_72 {σ0 : zSt} {σ : zSt} {s0 : Nat} (h : (zQ [10, 11, 12, 45] [] [] []) σ0 σ) : zpc (fX8_morePatterns_72 σ s0) (fun r => (zQ [10, 11, 12, 45] [] [] []) σ0 (r.1)) := by
  unfold fX8_morePatterns_72
  exact zpc_some h
theorem fn_fX8_morePatterns {σ0 : zSt} {σ : zSt} (h : (zQ [10, 11, 12, 45] [] [] []) σ0 σ) : zpc (fX8_morePatterns σ) (fun r => (zQ [10, 11, 12, 45] [] [] []) σ0 (r.1)) := by
  unfold fX8_morePatterns
  exact zpc_if (fun _ => zpc_if (fun _ => zpc_if (fun _ => fn_fX8_morePatterns_72 h) (fun _ => fn_fX8_morePatterns_72 h)) (fun _ => zpc_if (fun _ => zpc_if (fun _ => fn_fX8_morePatterns_89 h) (fun _ => fn_fX8_morePatterns_89 h)) (fun _ => zpc_if (fun _ => zpc_some h) (fun _ => zpc_if (fun _ => zpc_some h) (fun _ => zpc_if (fun _ => zpc_some h) (fun _ => zpc_if (fun _ => zpc_if (fun _ => fn_fX8_morePatterns_114 h) (fun _ => fn_fX8_morePatterns_114 h)) (fun _ => zpc_if (fun _ => zpc_some h) (fun _ => zpc_some h)))))))) (fun _ => zpc_some h)
theorem fn_fX8_lastPatterns {σ0 : zSt} {σ : zSt} (h : (zQ [10, 11, 12, 45] [] [] []) σ0 σ) : zpc (fX8_lastPatterns σ) (fun r => (zQ [10, 11, 12, 45] [] [] []) σ0 (r.1)) := by
  unfold fX8_lastPatterns
  exact zpc_if (fun _ => zpc_some h) (fun _ => zpc_if (fun _ => zpc_some h) (fun _ => zpc_if (fun _ => zpc_some h) (fun _ => zpc_if (fun _ => zpc_some h) (fun _ => zpc_if (fun _ => zpc_some h) (fun _ => zpc_if (fun _ => zpc_some h) (fun _ => zpc_if (fun _ => zpc_some h) (fun _ => zpc_some h)))))))
theorem fn_fX8_firstPatterns {σ0 : zSt} {σ : zSt} (h : (zQ [10, 11, 12, 45] [] [] []) σ0 σ) : zpc (fX8_firstPatterns σ) (fun r => (zQ [10, 11, 12, 45] [] [] []) σ0 (r.1)) := by
  unfold fX8_firstPatterns
  exact zpc_if (fun _ => zpc_some h) (fun _ => zpc_if (fun _ => zpc_some h) (fun _ => zpc_if (fun _ => zpc_some h) (fun _ => zpc_if (fun _ => zpc_some h) (fun _ => zpc_if (fun _ => zpc_some h) (fun _ => zpc_if (fun _ => zpc_some h) (fun _ => zpc_if (fun _ => zpc_some h) (fun _ => zpc_some h)))))))
theorem fn_fX8_patternsOf_23 {σ0 : zSt} {σ : zSt} {s0 : Int32} (h : (zQ [10, 11, 12, 45] [] [] []) σ0 σ) : zpc (fX8_patternsOf_23 σ s0) (fun r => (zQ [10, 11, 12, 45] [] [] []) σ0 (r.1)) := by
  unfold fX8_patternsOf_23
  exact zpc_bs (zQ.wi h rfl) (fun σ1 hσ1 => zpc_bi (fn_fX8_take hσ1) (fun σ2 v3 hσ2 => zpc_bu (fn_fX8_split hσ2) (fun σ4 hσ4 => zpc_bk (fn_fX8_turnPatterns hσ4) (fun σ5 v6 hσ5 => zpc_some hσ5))))
theorem fn_fX8_patternsOf_73 {σ0 : zSt} {σ : zSt} {s0 : Nat} (h : (zQ [10, 11, 12, 45] [] [] []) σ0 σ) : zpc (fX8_patternsOf_73 σ s0) (fun r => (zQ [10, 11, 12, 45] [] [] []) σ0 (r.1)) := by
  unfold fX8_patternsOf_73
  exact zpc_some h
theorem fn_fX8_patternsOf_126 {σ0 : zSt} {σ : zSt} {s0 : Nat} (h : (zQ [10, 11, 12, 45] [] [] []) σ0 σ) : zpc (fX8_patternsOf_126 σ s0) (fun r => (zQ [10, 11, 12, 45] [] [] []) σ0 (r.1)) := by
  unfold fX8_patternsOf_126
  exact zpc_some h
theorem fn_fX8_patternsOf {σ0 : zSt} {σ : zSt} {x1 : Int32} (h : (zQ [10, 11, 12, 45] [] [] []) σ0 σ) : zpc (fX8_patternsOf σ x1) (fun r => (zQ [10, 11, 12, 45] [] [] []) σ0 (r.1)) := by
  unfold fX8_patternsOf
  exact zpc_if (fun _ => zpc_if (fun _ => fn_fX8_patternsOf_23 h) (fun _ => zpc_bi (fn_fX8_take h) (fun σ19 v20 hσ19 => fn_fX8_patternsOf_23 hσ19))) (fun _ => zpc_if (fun _ => zpc_bi (fn_fX8_take h) (fun σ12 v13 hσ12 => zpc_bu (fn_fX8_split hσ12) (fun σ14 hσ14 => zpc_if (fun _ => zpc_bk (fn_fX8_blockPatterns hσ14) (fun σ17 v18 hσ17 => fn_fX8_patternsOf_73 hσ17)) (fun _ => zpc_bk (fn_fX8_morePatterns hσ14) (fun σ15 v16 hσ15 => fn_fX8_patternsOf_73 hσ15))))) (fun _ => zpc_bu (fn_fX8_split h) (fun σ7 hσ7 => zpc_if (fun _ => zpc_bk (fn_fX8_firstPatterns hσ7) (fun σ8 v9 hσ8 => zpc_some hσ8)) (fun _ => zpc_if (fun _ => zpc_if (fun _ => fn_fX8_patternsOf_126 hσ7) (fun _ => fn_fX8_patternsOf_126 hσ7)) (fun _ => zpc_if (fun _ => zpc_some hσ7) (fun _ => zpc_bk (fn_fX8_lastPatterns hσ7) (fun σ10 v11 hσ10 => zpc_some hσ10)))))))
theorem fn_fX8_write_82 {σ0 : zSt} {σ : zSt} (h : (zQ [10, 11, 12, 45] [] [] []) σ0 σ) : zpc (fX8_write_82 σ) (fun r => (zQ [10, 11, 12, 45] [] [] []) σ0 (r.1)) := by
  unfold fX8_write_82
  exact zpc_bu (fn_fX8_put h) (fun σ1 hσ1 => zpc_some hσ1)
theorem fn_fX8_write_124 {σ0 : zSt} {σ : zSt} {x2 : Int32} (h : (zQ [10, 11, 12, 45] [] [] []) σ0 σ) : zpc (fX8_write_124 σ x2) (fun r => (zQ [10, 11, 12, 45] [] [] []) σ0 (r.1)) := by
  unfold fX8_write_124
  exact zpc_bk (fn_fX8_patternsOf h) (fun σ2 v3 hσ2 => zpc_bu (fn_fX8_put hσ2) (fun σ4 hσ4 => zpc_some hσ4))
theorem fn_fX8_write_108 {σ0 : zSt} {σ : zSt} {s0 : Int32} (h : (zQ [10, 11, 12, 45] [] [] []) σ0 σ) : zpc (fX8_write_108 σ s0) (fun r => (zQ [10, 11, 12, 45] [] [] []) σ0 (r.1)) := by
  unfold fX8_write_108
  exact zpc_bs (zQ.wi h rfl) (fun σ5 hσ5 => zpc_bi (fn_fX8_take hσ5) (fun σ6 v7 hσ6 => zpc_bi (fn_fX5_meansPlace hσ6) (fun σ8 v9 hσ8 => zpc_ck (zpc_bs (zQ.wi hσ8 rfl) (fun σ10 hσ10 => fn_fX8_write_124 hσ10)))))
theorem fn_fX8_write_47 {σ0 : zSt} {σ : zSt} {x2 : Int32} (h : (zQ [10, 11, 12, 45] [] [] []) σ0 σ) : zpc (fX8_write_47 σ x2) (fun r => (zQ [10, 11, 12, 45] [] [] []) σ0 (r.1)) := by
  unfold fX8_write_47
  exact zpc_bi (fn_fX2_read h) (fun σ11 v12 hσ11 => zpc_if (fun _ => fn_fX8_write_82 hσ11) (fun _ => zpc_if (fun _ => fn_fX8_write_82 hσ11) (fun _ => zpc_if (fun _ => fn_fX8_write_82 hσ11) (fun _ => zpc_if (fun _ => fn_fX8_write_108 hσ11) (fun _ => fn_fX8_write_108 hσ11)))))
theorem fn_fX8_write {σ0 : zSt} {σ : zSt} {x1 : Int32} (h : (zQ [10, 11, 12, 45] [] [] []) σ0 σ) : zpc (fX8_write σ x1) (fun r => (zQ [10, 11, 12, 45] [] [] []) σ0 (r.1)) := by
  unfold fX8_write
  exact zpc_bs (zQ.wi h rfl) (fun σ13 hσ13 => zpc_bs (zQ.wi hσ13 rfl) (fun σ14 hσ14 => zpc_bs (zQ.wi hσ14 rfl) (fun σ15 hσ15 => zpc_bs (zQ.wi hσ15 rfl) (fun σ16 hσ16 => zpc_ck (zpc_bs (zQ.wi hσ16 rfl) (fun σ17 hσ17 => zpc_bi (fn_fX8_take hσ17) (fun σ18 v19 hσ18 => zpc_if (fun _ => fn_fX8_write_47 hσ18) (fun _ => zpc_if (fun _ => fn_fX8_write_47 hσ18) (fun _ => fn_fX8_write_124 hσ18)))))))))
theorem fn_fX8_eightFrom_39 {σ0 : zSt} {k6 : zSt → Int32 → Int64 → Int32 → Option (zSt × Int64)} (hk6 : ∀ (y0 : zSt) (y1 : Int32) (y2 : Int64) (y3 : Int32), (zQ [10, 11, 12, 45] [] [] []) σ0 y0 → zpc (k6 y0 y1 y2 y3) (fun r => (zQ [10, 11, 12, 45] [] [] []) σ0 (r.1))) {σ : zSt} {x1 : Int32} {x2 : Int64} {x4 : Int32} {s0 : Int32} (h : (zQ [10, 11, 12, 45] [] [] []) σ0 σ) : zpc (fX8_eightFrom_39 k6 σ x1 x2 x4 s0) (fun r => (zQ [10, 11, 12, 45] [] [] []) σ0 (r.1)) := by
  unfold fX8_eightFrom_39
  exact zpc_bv (fun v1 _ => zpc_bv (fun v2 _ => hk6 _ _ _ _ h))
theorem fn_fX8_eightFrom_38 {σ0 : zSt} {k6 : zSt → Int32 → Int64 → Int32 → Option (zSt × Int64)} (hk6 : ∀ (y0 : zSt) (y1 : Int32) (y2 : Int64) (y3 : Int32), (zQ [10, 11, 12, 45] [] [] []) σ0 y0 → zpc (k6 y0 y1 y2 y3) (fun r => (zQ [10, 11, 12, 45] [] [] []) σ0 (r.1))) {σ : zSt} {x1 : Int32} {x2 : Int64} {x4 : Int32} (h : (zQ [10, 11, 12, 45] [] [] []) σ0 σ) : zpc (fX8_eightFrom_38 k6 σ x1 x2 x4) (fun r => (zQ [10, 11, 12, 45] [] [] []) σ0 (r.1)) := by
  unfold fX8_eightFrom_38
  exact fn_fX8_eightFrom_39 hk6 h
theorem fn_fX8_eightFrom_6_body {σ0 : zSt} {k6 : zSt → Int32 → Int64 → Int32 → Option (zSt × Int64)} (hk6 : ∀ (y0 : zSt) (y1 : Int32) (y2 : Int64) (y3 : Int32), (zQ [10, 11, 12, 45] [] [] []) σ0 y0 → zpc (k6 y0 y1 y2 y3) (fun r => (zQ [10, 11, 12, 45] [] [] []) σ0 (r.1))) {σ : zSt} {x1 : Int32} {x2 : Int64} {x4 : Int32} (h : (zQ [10, 11, 12, 45] [] [] []) σ0 σ) : zpc (fX8_eightFrom_6_body k6 σ x1 x2 x4) (fun r => (zQ [10, 11, 12, 45] [] [] []) σ0 (r.1)) := by
  unfold fX8_eightFrom_6_body
  exact zpc_if (fun _ => zpc_some h) (fun _ => zpc_if (fun _ => fn_fX8_eightFrom_38 hk6 h) (fun _ => zpc_if (fun _ => fn_fX8_eightFrom_38 hk6 h) (fun _ => zpc_ck (fn_fX8_eightFrom_39 hk6 h))))
theorem fn_fX8_eightFrom_6 {σ0 : zSt} : ∀ (n : Nat) (y0 : zSt) (y1 : Int32) (y2 : Int64) (y3 : Int32), (zQ [10, 11, 12, 45] [] [] []) σ0 y0 → zpc (fX8_eightFrom_6 n y0 y1 y2 y3) (fun r => (zQ [10, 11, 12, 45] [] [] []) σ0 (r.1)) := by
  intro n
  induction n with
  | zero => intro y0 y1 y2 y3 h; exact zpc_none
  | succ n ih => intro y0 y1 y2 y3 h; exact fn_fX8_eightFrom_6_body ih h
theorem fn_fX8_eightFrom {σ0 : zSt} {σ : zSt} {x1 : Int32} (h : (zQ [10, 11, 12, 45] [] [] []) σ0 σ) : zpc (fX8_eightFrom σ x1) (fun r => (zQ [10, 11, 12, 45] [] [] []) σ0 (r.1)) := by
  unfold fX8_eightFrom
  exact fn_fX8_eightFrom_6 _ _ _ _ _ h
theorem fn_fX9_has_27 {σ0 : zSt} {σ : zSt} {s0 : Int32} (h : (zQ [10, 11, 12, 45] [] [] []) σ0 σ) : zpc (fX9_has_27 σ s0) (fun r => (zQ [10, 11, 12, 45] [] [] []) σ0 (r.1)) := by
  unfold fX9_has_27
  exact zpc_ck (zpc_some h)
theorem fn_fX9_has_26 {σ0 : zSt} {σ : zSt} (h : (zQ [10, 11, 12, 45] [] [] []) σ0 σ) : zpc (fX9_has_26 σ) (fun r => (zQ [10, 11, 12, 45] [] [] []) σ0 (r.1)) := by
  unfold fX9_has_26
  exact fn_fX9_has_27 h
theorem fn_fX9_has_22 {σ0 : zSt} {σ : zSt} (h : (zQ [10, 11, 12, 45] [] [] []) σ0 σ) : zpc (fX9_has_22 σ) (fun r => (zQ [10, 11, 12, 45] [] [] []) σ0 (r.1)) := by
  unfold fX9_has_22
  exact fn_fX9_has_27 h
theorem fn_fX9_has_10 {σ0 : zSt} {σ : zSt} {x0 : Int32} (h : (zQ [10, 11, 12, 45] [] [] []) σ0 σ) : zpc (fX9_has_10 σ x0) (fun r => (zQ [10, 11, 12, 45] [] [] []) σ0 (r.1)) := by
  unfold fX9_has_10
  exact zpc_if (fun _ => fn_fX9_has_26 h) (fun _ => zpc_if (fun _ => fn_fX9_has_26 h) (fun _ => fn_fX9_has_22 h))
theorem fn_fX9_has {σ0 : zSt} {σ : zSt} {x0 : Int32} (h : (zQ [10, 11, 12, 45] [] [] []) σ0 σ) : zpc (fX9_has σ x0) (fun r => (zQ [10, 11, 12, 45] [] [] []) σ0 (r.1)) := by
  unfold fX9_has
  exact zpc_if (fun _ => fn_fX9_has_10 h) (fun _ => zpc_if (fun _ => fn_fX9_has_22 h) (fun _ => fn_fX9_has_10 h))
theorem fn_fX9_asks_54 {σ0 : zSt} {σ : zSt} {s0 : Int32} (h : (zQ [10, 11, 12, 45] [] [] []) σ0 σ) : zpc (fX9_asks_54 σ s0) (fun r => (zQ [10, 11, 12, 45] [] [] []) σ0 (r.1)) := by
  unfold fX9_asks_54
  exact zpc_ck (zpc_some h)
theorem fn_fX9_asks_53 {σ0 : zSt} {σ : zSt} (h : (zQ [10, 11, 12, 45] [] [] []) σ0 σ) : zpc (fX9_asks_53 σ) (fun r => (zQ [10, 11, 12, 45] [] [] []) σ0 (r.1)) := by
  unfold fX9_asks_53
  exact fn_fX9_asks_54 h
theorem fn_fX9_asks_49 {σ0 : zSt} {σ : zSt} (h : (zQ [10, 11, 12, 45] [] [] []) σ0 σ) : zpc (fX9_asks_49 σ) (fun r => (zQ [10, 11, 12, 45] [] [] []) σ0 (r.1)) := by
  unfold fX9_asks_49
  exact fn_fX9_asks_54 h
theorem fn_fX9_asks_26 {σ0 : zSt} {σ : zSt} (h : (zQ [10, 11, 12, 45] [] [] []) σ0 σ) : zpc (fX9_asks_26 σ) (fun r => (zQ [10, 11, 12, 45] [] [] []) σ0 (r.1)) := by
  unfold fX9_asks_26
  exact zpc_ck (zpc_if (fun _ => fn_fX9_asks_53 h) (fun _ => zpc_ck (zpc_if (fun _ => fn_fX9_asks_49 h) (fun _ => fn_fX9_asks_53 h))))
theorem fn_fX9_asks {σ0 : zSt} {σ : zSt} (h : (zQ [10, 11, 12, 45] [] [] []) σ0 σ) : zpc (fX9_asks σ) (fun r => (zQ [10, 11, 12, 45] [] [] []) σ0 (r.1)) := by
  unfold fX9_asks
  exact zpc_ck (zpc_if (fun _ => fn_fX9_asks_26 h) (fun _ => zpc_ck (zpc_if (fun _ => fn_fX9_asks_26 h) (fun _ => fn_fX9_asks_49 h))))
theorem fn_fX9_value_85 {σ0 : zSt} {σ : zSt} {x1 : Int32} (h : (zQ [10, 11, 12, 45] [] [] []) σ0 σ) : zpc (fX9_value_85 σ x1) (fun r => (zQ [10, 11, 12, 45] [] [] []) σ0 (r.1)) := by
  unfold fX9_value_85
  exact zpc_bi (fn_fX9_held h) (fun σ1 v2 hσ1 => zpc_some hσ1)
theorem fn_fX9_value_64 {σ0 : zSt} {σ : zSt} {s0 : Int32} (h : (zQ [10, 11, 12, 45] [] [] []) σ0 σ) : zpc (fX9_value_64 σ s0) (fun r => (zQ [10, 11, 12, 45] [] [] []) σ0 (r.1)) := by
  unfold fX9_value_64
  exact zpc_some h
theorem fn_fX9_value {σ0 : zSt} {σ : zSt} {x1 : Int32} (h : (zQ [10, 11, 12, 45] [] [] []) σ0 σ) : zpc (fX9_value σ x1) (fun r => (zQ [10, 11, 12, 45] [] [] []) σ0 (r.1)) := by
  unfold fX9_value
  exact zpc_if (fun _ => zpc_bi (fn_fX9_asks h) (fun σ3 v4 hσ3 => zpc_if (fun _ => fn_fX9_value_64 hσ3) (fun _ => fn_fX9_value_64 hσ3))) (fun _ => zpc_if (fun _ => fn_fX9_value_85 h) (fun _ => zpc_if (fun _ => fn_fX9_value_85 h) (fun _ => zpc_if (fun _ => fn_fX9_value_85 h) (fun _ => zpc_if (fun _ => fn_fX9_value_85 h) (fun _ => zpc_if (fun _ => zpc_bi (fn_fX9_mode h) (fun σ5 v6 hσ5 => zpc_some hσ5)) (fun _ => zpc_if (fun _ => zpc_bi (fn_fX9_height h) (fun σ7 v8 hσ7 => zpc_some hσ7)) (fun _ => zpc_if (fun _ => zpc_bi (fn_fX9_hCount h) (fun σ9 v10 hσ9 => zpc_some hσ9)) (fun _ => zpc_if (fun _ => zpc_bi (fn_fX9_vCount h) (fun σ11 v12 hσ11 => zpc_some hσ11)) (fun _ => fn_fX9_value_85 h)))))))))
theorem fn_fX9_eightFrom_6_body {σ0 : zSt} {k6 : zSt → Int32 → Int64 → Int32 → Option (zSt × Int64)} (hk6 : ∀ (y0 : zSt) (y1 : Int32) (y2 : Int64) (y3 : Int32), (zQ [10, 11, 12, 45] [] [] []) σ0 y0 → zpc (k6 y0 y1 y2 y3) (fun r => (zQ [10, 11, 12, 45] [] [] []) σ0 (r.1))) {σ : zSt} {x1 : Int32} {x2 : Int64} {x4 : Int32} (h : (zQ [10, 11, 12, 45] [] [] []) σ0 σ) : zpc (fX9_eightFrom_6_body k6 σ x1 x2 x4) (fun r => (zQ [10, 11, 12, 45] [] [] []) σ0 (r.1)) := by
  unfold fX9_eightFrom_6_body
  exact zpc_if (fun _ => zpc_some h) (fun _ => zpc_ck (zpc_bv (fun v1 _ => zpc_bv (fun v2 _ => hk6 _ _ _ _ h))))
theorem fn_fX9_eightFrom_6 {σ0 : zSt} : ∀ (n : Nat) (y0 : zSt) (y1 : Int32) (y2 : Int64) (y3 : Int32), (zQ [10, 11, 12, 45] [] [] []) σ0 y0 → zpc (fX9_eightFrom_6 n y0 y1 y2 y3) (fun r => (zQ [10, 11, 12, 45] [] [] []) σ0 (r.1)) := by
  intro n
  induction n with
  | zero => intro y0 y1 y2 y3 h; exact zpc_none
  | succ n ih => intro y0 y1 y2 y3 h; exact fn_fX9_eightFrom_6_body ih h
theorem fn_fX9_eightFrom {σ0 : zSt} {σ : zSt} {x1 : Int32} (h : (zQ [10, 11, 12, 45] [] [] []) σ0 σ) : zpc (fX9_eightFrom σ x1) (fun r => (zQ [10, 11, 12, 45] [] [] []) σ0 (r.1)) := by
  unfold fX9_eightFrom
  exact fn_fX9_eightFrom_6 _ _ _ _ _ h
theorem fn_fX10_has_37 {σ0 : zSt} {σ : zSt} {s0 : Int32} (h : (zQ [10, 11, 12, 45] [] [] []) σ0 σ) : zpc (fX10_has_37 σ s0) (fun r => (zQ [10, 11, 12, 45] [] [] []) σ0 (r.1)) := by
  unfold fX10_has_37
  exact zpc_ck (zpc_some h)
theorem fn_fX10_has_36 {σ0 : zSt} {σ : zSt} (h : (zQ [10, 11, 12, 45] [] [] []) σ0 σ) : zpc (fX10_has_36 σ) (fun r => (zQ [10, 11, 12, 45] [] [] []) σ0 (r.1)) := by
  unfold fX10_has_36
  exact fn_fX10_has_37 h
theorem fn_fX10_has_32 {σ0 : zSt} {σ : zSt} (h : (zQ [10, 11, 12, 45] [] [] []) σ0 σ) : zpc (fX10_has_32 σ) (fun r => (zQ [10, 11, 12, 45] [] [] []) σ0 (r.1)) := by
  unfold fX10_has_32
  exact fn_fX10_has_37 h
theorem fn_fX10_has_10 {σ0 : zSt} {σ : zSt} {x0 : Int32} (h : (zQ [10, 11, 12, 45] [] [] []) σ0 σ) : zpc (fX10_has_10 σ x0) (fun r => (zQ [10, 11, 12, 45] [] [] []) σ0 (r.1)) := by
  unfold fX10_has_10
  exact zpc_if (fun _ => fn_fX10_has_36 h) (fun _ => zpc_if (fun _ => fn_fX10_has_36 h) (fun _ => zpc_if (fun _ => fn_fX10_has_36 h) (fun _ => fn_fX10_has_32 h)))
theorem fn_fX10_has {σ0 : zSt} {σ : zSt} {x0 : Int32} (h : (zQ [10, 11, 12, 45] [] [] []) σ0 σ) : zpc (fX10_has σ x0) (fun r => (zQ [10, 11, 12, 45] [] [] []) σ0 (r.1)) := by
  unfold fX10_has
  exact zpc_if (fun _ => fn_fX10_has_10 h) (fun _ => zpc_if (fun _ => fn_fX10_has_32 h) (fun _ => fn_fX10_has_10 h))
theorem fn_fX11_tell {σ0 : zSt} {σ : zSt} {x1 : Int32} (h : (zQ [10, 11, 12, 45] [] [] []) σ0 σ) : zpc (fX11_tell σ x1) (fun r => (zQ [10, 11, 12, 45] [] [] []) σ0 (r.1)) := by
  unfold fX11_tell
  exact zpc_bi (fn_fX8_write h) (fun σ1 v2 hσ1 => zpc_some hσ1)
theorem fn_fX11_peek {σ0 : zSt} {σ : zSt} {x1 : Int32} (h : (zQ [10, 11, 12, 45] [] [] []) σ0 σ) : zpc (fX11_peek σ x1) (fun r => (zQ [10, 11, 12, 45] [] [] []) σ0 (r.1)) := by
  unfold fX11_peek
  exact zpc_bi (fn_fX2_read h) (fun σ1 v2 hσ1 => zpc_some hσ1)
theorem fn_fX11_video {σ0 : zSt} {σ : zSt} {x1 : Int32} (h : (zQ [10, 11, 12, 45] [] [] []) σ0 σ) : zpc (fX11_video σ x1) (fun r => (zQ [10, 11, 12, 45] [] [] []) σ0 (r.1)) := by
  unfold fX11_video
  exact zpc_bll (fn_fX9_eightFrom h) (fun σ1 v2 hσ1 => zpc_some hσ1)
theorem fn_fX11_trace {σ0 : zSt} {σ : zSt} {x1 : Int32} (h : (zQ [10, 11, 12, 45] [] [] []) σ0 σ) : zpc (fX11_trace σ x1) (fun r => (zQ [10, 11, 12, 45] [] [] []) σ0 (r.1)) := by
  unfold fX11_trace
  exact zpc_bi (fn_fX1_stepBack h) (fun σ1 v2 hσ1 => zpc_some hσ1)
theorem fn_fX11_card_10 {σ0 : zSt} {σ : zSt} (h : (zQ [10, 11, 12, 45] [] [] []) σ0 σ) : zpc (fX11_card_10 σ) (fun r => (zQ [10, 11, 12, 45] [] [] []) σ0 (zRis r)) := by
  unfold fX11_card_10
  exact zpc_some h
theorem fn_fX11_card {σ0 : zSt} {σ : zSt} {x1 : Int32} (h : (zQ [10, 11, 12, 45] [] [] []) σ0 σ) : zpc (fX11_card σ x1) (fun r => (zQ [10, 11, 12, 45] [] [] []) σ0 (zRis r)) := by
  unfold fX11_card
  exact zpc_if (fun _ => fn_fX11_card_10 h) (fun _ => zpc_if (fun _ => zpc_bi (fn_fX2_aboutCard h) (fun σ1 v2 hσ1 => zpc_some hσ1)) (fun _ => fn_fX11_card_10 h))
theorem fn_fX11_text_15 {σ0 : zSt} {σ : zSt} (h : (zQ [10, 11, 12, 45] [] [] []) σ0 σ) : zpc (fX11_text_15 σ) (fun r => (zQ [10, 11, 12, 45] [] [] []) σ0 (zRls r)) := by
  unfold fX11_text_15
  exact zpc_some h
theorem fn_fX11_text {σ0 : zSt} {σ : zSt} {x1 : Int32} (h : (zQ [10, 11, 12, 45] [] [] []) σ0 σ) : zpc (fX11_text σ x1) (fun r => (zQ [10, 11, 12, 45] [] [] []) σ0 (zRls r)) := by
  unfold fX11_text
  exact zpc_if (fun _ => fn_fX11_text_15 h) (fun _ => zpc_if (fun _ => zpc_bll (fn_fX8_eightFrom h) (fun σ1 v2 hσ1 => zpc_some hσ1)) (fun _ => fn_fX11_text_15 h))
theorem fn_fX11_register_10 {σ0 : zSt} {σ : zSt} (h : (zQ [10, 11, 12, 45] [] [] []) σ0 σ) : zpc (fX11_register_10 σ) (fun r => (zQ [10, 11, 12, 45] [] [] []) σ0 (zRis r)) := by
  unfold fX11_register_10
  exact zpc_some h
theorem fn_fX11_register {σ0 : zSt} {σ : zSt} {x1 : Int32} (h : (zQ [10, 11, 12, 45] [] [] []) σ0 σ) : zpc (fX11_register σ x1) (fun r => (zQ [10, 11, 12, 45] [] [] []) σ0 (zRis r)) := by
  unfold fX11_register
  exact zpc_if (fun _ => fn_fX11_register_10 h) (fun _ => zpc_if (fun _ => zpc_bi (fn_fX5_value h) (fun σ1 v2 hσ1 => zpc_some hσ1)) (fun _ => fn_fX11_register_10 h))
theorem fn_fX11_battery_11 {σ0 : zSt} {σ : zSt} (h : (zQ [10, 11, 12, 45] [] [] []) σ0 σ) : zpc (fX11_battery_11 σ) (fun r => (zQ [10, 11, 12, 45] [] [] []) σ0 (zRis r)) := by
  unfold fX11_battery_11
  exact zpc_some h
theorem fn_fX11_battery {σ0 : zSt} {σ : zSt} {x1 : Int32} (h : (zQ [10, 11, 12, 45] [] [] []) σ0 σ) : zpc (fX11_battery σ x1) (fun r => (zQ [10, 11, 12, 45] [] [] []) σ0 (zRis r)) := by
  unfold fX11_battery
  exact zpc_if (fun _ => fn_fX11_battery_11 h) (fun _ => zpc_if (fun _ => zpc_bi (fn_fX2_batteryByte h) (fun σ1 v2 hσ1 => zpc_some hσ1)) (fun _ => fn_fX11_battery_11 h))
theorem fn_fX11_chip {σ0 : zSt} {σ : zSt} {x1 : Int32} (h : (zQ [10, 11, 12, 45] [] [] []) σ0 σ) : zpc (fX11_chip σ x1) (fun r => (zQ [10, 11, 12, 45] [] [] []) σ0 (zRis r)) := by
  unfold fX11_chip
  exact zpc_bi (fn_fX9_has h) (fun σ1 v2 hσ1 => zpc_if (fun _ => zpc_some hσ1) (fun _ => zpc_bi (fn_fX9_value hσ1) (fun σ3 v4 hσ3 => zpc_some hσ3)))
theorem fn_fX11_dot_30 {σ0 : zSt} {σ : zSt} (h : (zQ [10, 11, 12, 45] [] [] []) σ0 σ) : zpc (fX11_dot_30 σ) (fun r => (zQ [10, 11, 12, 45] [] [] []) σ0 (zRis r)) := by
  unfold fX11_dot_30
  exact zpc_some h
theorem fn_fX11_dot {σ0 : zSt} {σ : zSt} {x1 : Int32} {x2 : Int32} (h : (zQ [10, 11, 12, 45] [] [] []) σ0 σ) : zpc (fX11_dot σ x1 x2) (fun r => (zQ [10, 11, 12, 45] [] [] []) σ0 (zRis r)) := by
  unfold fX11_dot
  exact zpc_if (fun _ => fn_fX11_dot_30 h) (fun _ => zpc_bi (fn_fX3_width h) (fun σ1 v2 hσ1 => zpc_if (fun _ => fn_fX11_dot_30 hσ1) (fun _ => zpc_if (fun _ => fn_fX11_dot_30 hσ1) (fun _ => zpc_bi (fn_fX3_height hσ1) (fun σ3 v4 hσ3 => zpc_if (fun _ => zpc_bi (fn_fX3_dotAt hσ3) (fun σ5 v6 hσ5 => zpc_some hσ5)) (fun _ => fn_fX11_dot_30 hσ3))))))
theorem fn_fX11_row_15 {σ0 : zSt} {σ : zSt} (h : (zQ [10, 11, 12, 45] [] [] []) σ0 σ) : zpc (fX11_row_15 σ) (fun r => (zQ [10, 11, 12, 45] [] [] []) σ0 (zRis r)) := by
  unfold fX11_row_15
  exact zpc_some h
theorem fn_fX11_row {σ0 : zSt} {σ : zSt} {x1 : Int32} (h : (zQ [10, 11, 12, 45] [] [] []) σ0 σ) : zpc (fX11_row σ x1) (fun r => (zQ [10, 11, 12, 45] [] [] []) σ0 (zRis r)) := by
  unfold fX11_row
  exact zpc_if (fun _ => fn_fX11_row_15 h) (fun _ => zpc_bi (fn_fX3_height h) (fun σ1 v2 hσ1 => zpc_if (fun _ => zpc_bi (fn_fX3_sumOfLine hσ1) (fun σ3 v4 hσ3 => zpc_some hσ3)) (fun _ => fn_fX11_row_15 hσ1)))
theorem fn_fX11_hear {σ0 : zSt} {σ : zSt} (h : (zQ [10, 11, 12, 45] [] [] []) σ0 σ) : zpc (fX11_hear σ) (fun r => (zQ [10, 11, 12, 45] [] [] []) σ0 (zRls r)) := by
  unfold fX11_hear
  exact zpc_bi (fn_fX6_size_k11 h) (fun σ1 v2 hσ1 => zpc_if (fun _ => zpc_some hσ1) (fun _ => zpc_bll (fn_fX6_takeFirst_k11 hσ1) (fun σ3 v4 hσ3 => zpc_some hσ3)))
theorem fn_fX11_mix {σ0 : zSt} {σ : zSt} (h : (zQ [10, 11, 12, 45] [] [] []) σ0 σ) : zpc (fX11_mix σ) (fun r => (zQ [10, 11, 12, 45] [] [] []) σ0 (zRls r)) := by
  unfold fX11_mix
  exact zpc_bi (fn_fX6_size_k12 h) (fun σ1 v2 hσ1 => zpc_if (fun _ => zpc_some hσ1) (fun _ => zpc_bll (fn_fX6_takeFirst_k12 hσ1) (fun σ3 v4 hσ3 => zpc_some hσ3)))
theorem fn_fX11_wave {σ0 : zSt} {σ : zSt} {x1 : Int32} (h : (zQ [10, 11, 12, 45] [] [] []) σ0 σ) : zpc (fX11_wave σ x1) (fun r => (zQ [10, 11, 12, 45] [] [] []) σ0 (zRis r)) := by
  unfold fX11_wave
  exact zpc_bi (fn_fX10_has h) (fun σ1 v2 hσ1 => zpc_if (fun _ => zpc_some hσ1) (fun _ => zpc_bi (fn_fX10_value hσ1) (fun σ3 v4 hσ3 => zpc_some hσ3)))
theorem fn_fX11_sound_10 {σ0 : zSt} {σ : zSt} (h : (zQ [10, 11, 12, 45] [] [] []) σ0 σ) : zpc (fX11_sound_10 σ) (fun r => (zQ [10, 11, 12, 45] [] [] []) σ0 (zRis r)) := by
  unfold fX11_sound_10
  exact zpc_some h
theorem fn_fX11_sound {σ0 : zSt} {σ : zSt} {x1 : Int32} (h : (zQ [10, 11, 12, 45] [] [] []) σ0 σ) : zpc (fX11_sound σ x1) (fun r => (zQ [10, 11, 12, 45] [] [] []) σ0 (zRis r)) := by
  unfold fX11_sound
  exact zpc_if (fun _ => fn_fX11_sound_10 h) (fun _ => zpc_if (fun _ => zpc_bi (fn_fX7_value h) (fun σ1 v2 hσ1 => zpc_some hσ1)) (fun _ => fn_fX11_sound_10 h))
theorem fn_fX11_look_10 {σ0 : zSt} {σ : zSt} (h : (zQ [10, 11, 12, 45] [] [] []) σ0 σ) : zpc (fX11_look_10 σ) (fun r => (zQ [10, 11, 12, 45] [] [] []) σ0 (zRls r)) := by
  unfold fX11_look_10
  exact zpc_some h
theorem fn_fX11_look_193 {σ0 : zSt} {σ : zSt} {x1 : Int32} (h : (zQ [10, 11, 12, 45] [] [] []) σ0 σ) : zpc (fX11_look_193 σ x1) (fun r => (zQ [10, 11, 12, 45] [] [] []) σ0 (zRls r)) := by
  unfold fX11_look_193
  exact zpc_bi (fn_fX2_page h) (fun σ1 v2 hσ1 => zpc_some hσ1)
theorem fn_fX11_look_250 {σ0 : zSt} {σ : zSt} {s0 : Int64} (h : (zQ [10, 11, 12, 45] [] [] []) σ0 σ) : zpc (fX11_look_250 σ s0) (fun r => (zQ [10, 11, 12, 45] [] [] []) σ0 (zRls r)) := by
  unfold fX11_look_250
  exact zpc_some h
theorem fn_fX11_look {σ0 : zSt} {σ : zSt} {x1 : Int32} (h : (zQ [10, 11, 12, 45] [] [] []) σ0 σ) : zpc (fX11_look σ x1) (fun r => (zQ [10, 11, 12, 45] [] [] []) σ0 (zRls r)) := by
  unfold fX11_look
  exact zpc_if (fun _ => fn_fX11_look_10 h) (fun _ => zpc_if (fun _ => zpc_if (fun _ => zpc_bll (fn_fX0_count h) (fun σ3 v4 hσ3 => zpc_some hσ3)) (fun _ => zpc_if (fun _ => zpc_bll (fn_fX0_count h) (fun σ5 v6 hσ5 => zpc_some hσ5)) (fun _ => zpc_if (fun _ => zpc_bll (fn_fX0_count h) (fun σ7 v8 hσ7 => zpc_some hσ7)) (fun _ => zpc_if (fun _ => zpc_bi (fn_fX6_size_k11 h) (fun σ9 v10 hσ9 => zpc_some hσ9)) (fun _ => zpc_if (fun _ => zpc_bll (fn_fX0_count h) (fun σ11 v12 hσ11 => zpc_some hσ11)) (fun _ => zpc_if (fun _ => zpc_some h) (fun _ => zpc_if (fun _ => zpc_bi (fn_fX1_stopCount h) (fun σ13 v14 hσ13 => zpc_some hσ13)) (fun _ => zpc_if (fun _ => zpc_bi (fn_fX2_cardSize h) (fun σ15 v16 hσ15 => zpc_some hσ15)) (fun _ => zpc_if (fun _ => zpc_bi (fn_fX2_page h) (fun σ17 v18 hσ17 => zpc_some hσ17)) (fun _ => zpc_if (fun _ => fn_fX11_look_193 h) (fun _ => zpc_if (fun _ => fn_fX11_look_193 h) (fun _ => zpc_if (fun _ => fn_fX11_look_193 h) (fun _ => zpc_if (fun _ => zpc_bi (fn_fX5_value h) (fun σ19 v20 hσ19 => zpc_some hσ19)) (fun _ => zpc_if (fun _ => zpc_bi (fn_fX4_value h) (fun σ21 v22 hσ21 => zpc_some hσ21)) (fun _ => zpc_if (fun _ => zpc_bi (fn_fX4_value h) (fun σ23 v24 hσ23 => zpc_some hσ23)) (fun _ => zpc_if (fun _ => zpc_if (fun _ => fn_fX11_look_250 h) (fun _ => fn_fX11_look_250 h)) (fun _ => zpc_if (fun _ => zpc_bi (fn_fX1_plansWaiting h) (fun σ25 v26 hσ25 => zpc_some hσ25)) (fun _ => zpc_if (fun _ => zpc_bi (fn_fX6_size_k12 h) (fun σ27 v28 hσ27 => zpc_some hσ27)) (fun _ => zpc_some h))))))))))))))))))) (fun _ => fn_fX11_look_10 h))
theorem fN_fX12_fails_10 {σ0 : zSt} {σ : zSt} {x1 : Int32} {s0 : Int32} (h : (zQ [26] [(0, 0, 0), (0, 39, 49), (3, 87, 88), (3, 169, 170)] [] []) σ0 σ) : zpc (fX12_fails_10 σ x1 s0) (fun r => (zQ [26] [(0, 0, 0), (0, 39, 49), (3, 87, 88), (3, 169, 170)] [] []) σ0 (r.1)) := by
  unfold fX12_fails_10
  exact zpc_bs (zQ.wi h rfl) (fun σ1 hσ1 => zpc_ck (zpc_some hσ1))
theorem fN_fX12_fails {σ0 : zSt} {σ : zSt} {x1 : Int32} {x2 : Int32} (h : (zQ [26] [(0, 0, 0), (0, 39, 49), (3, 87, 88), (3, 169, 170)] [] []) σ0 σ) : zpc (fX12_fails σ x1 x2) (fun r => (zQ [26] [(0, 0, 0), (0, 39, 49), (3, 87, 88), (3, 169, 170)] [] []) σ0 (r.1)) := by
  unfold fX12_fails
  exact zpc_if (fun _ => fN_fX12_fails_10 h) (fun _ => fN_fX12_fails_10 h)
theorem fN_fX12_within_18 {σ0 : zSt} {σ : zSt} {s0 : Int32} (h : (zQ [26] [(0, 0, 0), (0, 39, 49), (3, 87, 88), (3, 169, 170)] [] []) σ0 σ) : zpc (fX12_within_18 σ s0) (fun r => (zQ [26] [(0, 0, 0), (0, 39, 49), (3, 87, 88), (3, 169, 170)] [] []) σ0 (r.1)) := by
  unfold fX12_within_18
  exact zpc_ck (zpc_some h)
theorem fN_fX12_within_17 {σ0 : zSt} {σ : zSt} (h : (zQ [26] [(0, 0, 0), (0, 39, 49), (3, 87, 88), (3, 169, 170)] [] []) σ0 σ) : zpc (fX12_within_17 σ) (fun r => (zQ [26] [(0, 0, 0), (0, 39, 49), (3, 87, 88), (3, 169, 170)] [] []) σ0 (r.1)) := by
  unfold fX12_within_17
  exact fN_fX12_within_18 h
theorem fN_fX12_within {σ0 : zSt} {σ : zSt} {x0 : Int64} {x2 : Int64} {x4 : Int64} (h : (zQ [26] [(0, 0, 0), (0, 39, 49), (3, 87, 88), (3, 169, 170)] [] []) σ0 σ) : zpc (fX12_within σ x0 x2 x4) (fun r => (zQ [26] [(0, 0, 0), (0, 39, 49), (3, 87, 88), (3, 169, 170)] [] []) σ0 (r.1)) := by
  unfold fX12_within
  exact zpc_if (fun _ => fN_fX12_within_17 h) (fun _ => zpc_if (fun _ => fN_fX12_within_17 h) (fun _ => fN_fX12_within_18 h))
theorem fN_fX12_bytesAt_7_body {σ0 : zSt} {k7 : zSt → Int32 → Int32 → Int32 → Option (zSt × Int32)} (hk7 : ∀ (y0 : zSt) (y1 : Int32) (y2 : Int32) (y3 : Int32), (zQ [26] [(0, 0, 0), (0, 39, 49), (3, 87, 88), (3, 169, 170)] [] []) σ0 y0 → zpc (k7 y0 y1 y2 y3) (fun r => (zQ [26] [(0, 0, 0), (0, 39, 49), (3, 87, 88), (3, 169, 170)] [] []) σ0 (r.1))) {σ : zSt} {x1 : Int32} {x3 : Int32} {x4 : Int32} (h : (zQ [26] [(0, 0, 0), (0, 39, 49), (3, 87, 88), (3, 169, 170)] [] []) σ0 σ) : zpc (fX12_bytesAt_7_body k7 σ x1 x3 x4) (fun r => (zQ [26] [(0, 0, 0), (0, 39, 49), (3, 87, 88), (3, 169, 170)] [] []) σ0 (r.1)) := by
  unfold fX12_bytesAt_7_body
  exact zpc_if (fun _ => zpc_some h) (fun _ => zpc_ck (zpc_bv (fun v1 _ => zpc_bv (fun v2 _ => hk7 _ _ _ _ h))))
theorem fN_fX12_bytesAt_7 {σ0 : zSt} : ∀ (n : Nat) (y0 : zSt) (y1 : Int32) (y2 : Int32) (y3 : Int32), (zQ [26] [(0, 0, 0), (0, 39, 49), (3, 87, 88), (3, 169, 170)] [] []) σ0 y0 → zpc (fX12_bytesAt_7 n y0 y1 y2 y3) (fun r => (zQ [26] [(0, 0, 0), (0, 39, 49), (3, 87, 88), (3, 169, 170)] [] []) σ0 (r.1)) := by
  intro n
  induction n with
  | zero => intro y0 y1 y2 y3 h; exact zpc_none
  | succ n ih => intro y0 y1 y2 y3 h; exact fN_fX12_bytesAt_7_body ih h
theorem fN_fX12_bytesAt {σ0 : zSt} {σ : zSt} {x1 : Int32} {x2 : Int32} (h : (zQ [26] [(0, 0, 0), (0, 39, 49), (3, 87, 88), (3, 169, 170)] [] []) σ0 σ) : zpc (fX12_bytesAt σ x1 x2) (fun r => (zQ [26] [(0, 0, 0), (0, 39, 49), (3, 87, 88), (3, 169, 170)] [] []) σ0 (r.1)) := by
  unfold fX12_bytesAt
  exact zpc_bv (fun v3 _ => fN_fX12_bytesAt_7 _ _ _ _ _ h)
theorem fN_fX12_tens {σ0 : zSt} {σ : zSt} {x1 : Int32} (h : (zQ [26] [(0, 0, 0), (0, 39, 49), (3, 87, 88), (3, 169, 170)] [] []) σ0 σ) : zpc (fX12_tens σ x1) (fun r => (zQ [26] [(0, 0, 0), (0, 39, 49), (3, 87, 88), (3, 169, 170)] [] []) σ0 (r.1)) := by
  unfold fX12_tens
  exact zpc_ck (zpc_ck (zpc_some h))
theorem fN_fX12_card_59 {σ0 : zSt} {σ : zSt} {s0 : Int32} (h : (zQ [26] [(0, 0, 0), (0, 39, 49), (3, 87, 88), (3, 169, 170)] [] []) σ0 σ) : zpc (fX12_card_59 σ s0) (fun r => (zQ [26] [(0, 0, 0), (0, 39, 49), (3, 87, 88), (3, 169, 170)] [] []) σ0 (r.1)) := by
  unfold fX12_card_59
  exact zpc_some h
theorem fN_fX12_card_18 {σ0 : zSt} {σ : zSt} {x1 : Int32} {s0 : Int32} (h : (zQ [26] [(0, 0, 0), (0, 39, 49), (3, 87, 88), (3, 169, 170)] [] []) σ0 σ) : zpc (fX12_card_18 σ x1 s0) (fun r => (zQ [26] [(0, 0, 0), (0, 39, 49), (3, 87, 88), (3, 169, 170)] [] []) σ0 (r.1)) := by
  unfold fX12_card_18
  exact zpc_bi (fN_fX12_fails h) (fun σ1 v2 hσ1 => zpc_if (fun _ => zpc_if (fun _ => zpc_if (fun _ => zpc_if (fun _ => zpc_bi (fN_fX12_tens hσ1) (fun σ3 v4 hσ3 => zpc_bi (fN_fX12_tens hσ3) (fun σ5 v6 hσ5 => zpc_ck (zpc_some hσ5)))) (fun _ => zpc_if (fun _ => zpc_ck (zpc_some hσ1)) (fun _ => zpc_if (fun _ => zpc_ck (zpc_some hσ1)) (fun _ => zpc_if (fun _ => zpc_bi (fN_fX12_bytesAt hσ1) (fun σ7 v8 hσ7 => zpc_some hσ7)) (fun _ => zpc_some hσ1))))) (fun _ => zpc_some hσ1)) (fun _ => zpc_if (fun _ => fN_fX12_card_59 hσ1) (fun _ => zpc_if (fun _ => fN_fX12_card_59 hσ1) (fun _ => fN_fX12_card_59 hσ1)))) (fun _ => zpc_some hσ1))
theorem fN_fX12_card {σ0 : zSt} {σ : zSt} {x1 : Int32} (h : (zQ [26] [(0, 0, 0), (0, 39, 49), (3, 87, 88), (3, 169, 170)] [] []) σ0 σ) : zpc (fX12_card σ x1) (fun r => (zQ [26] [(0, 0, 0), (0, 39, 49), (3, 87, 88), (3, 169, 170)] [] []) σ0 (r.1)) := by
  unfold fX12_card
  exact zpc_bi (fN_fX12_within h) (fun σ9 v10 hσ9 => zpc_if (fun _ => fN_fX12_card_18 hσ9) (fun _ => fN_fX12_card_18 hσ9))
theorem fN_fX12_ofBank {σ0 : zSt} {σ : zSt} {x1 : Int32} {x2 : Int32} (h : (zQ [26] [(0, 0, 0), (0, 39, 49), (3, 87, 88), (3, 169, 170)] [] []) σ0 σ) : zpc (fX12_ofBank σ x1 x2) (fun r => (zQ [26] [(0, 0, 0), (0, 39, 49), (3, 87, 88), (3, 169, 170)] [] []) σ0 (r.1)) := by
  unfold fX12_ofBank
  exact zpc_ck (zpc_ck (zpc_ck (zpc_some h)))
theorem fN_fX12_isBattery_38 {σ0 : zSt} {σ : zSt} {s0 : Int32} (h : (zQ [26] [(0, 0, 0), (0, 39, 49), (3, 87, 88), (3, 169, 170)] [] []) σ0 σ) : zpc (fX12_isBattery_38 σ s0) (fun r => (zQ [26] [(0, 0, 0), (0, 39, 49), (3, 87, 88), (3, 169, 170)] [] []) σ0 (r.1)) := by
  unfold fX12_isBattery_38
  exact zpc_ck (zpc_some h)
theorem fN_fX12_isBattery_37 {σ0 : zSt} {σ : zSt} (h : (zQ [26] [(0, 0, 0), (0, 39, 49), (3, 87, 88), (3, 169, 170)] [] []) σ0 σ) : zpc (fX12_isBattery_37 σ) (fun r => (zQ [26] [(0, 0, 0), (0, 39, 49), (3, 87, 88), (3, 169, 170)] [] []) σ0 (r.1)) := by
  unfold fX12_isBattery_37
  exact fN_fX12_isBattery_38 h
theorem fN_fX12_isBattery {σ0 : zSt} {σ : zSt} {x1 : Int32} (h : (zQ [26] [(0, 0, 0), (0, 39, 49), (3, 87, 88), (3, 169, 170)] [] []) σ0 σ) : zpc (fX12_isBattery σ x1) (fun r => (zQ [26] [(0, 0, 0), (0, 39, 49), (3, 87, 88), (3, 169, 170)] [] []) σ0 (r.1)) := by
  unfold fX12_isBattery
  exact zpc_if (fun _ => zpc_ck (zpc_if (fun _ => fN_fX12_isBattery_37 h) (fun _ => zpc_if (fun _ => fN_fX12_isBattery_37 h) (fun _ => zpc_if (fun _ => fN_fX12_isBattery_37 h) (fun _ => fN_fX12_isBattery_38 h))))) (fun _ => fN_fX12_isBattery_37 h)
theorem fN_fX12_batteryAt_23 {σ0 : zSt} {σ : zSt} {s0 : Int32} {s1 : Int32} (h : (zQ [26] [(0, 0, 0), (0, 39, 49), (3, 87, 88), (3, 169, 170)] [] []) σ0 σ) : zpc (fX12_batteryAt_23 σ s0 s1) (fun r => (zQ [26] [(0, 0, 0), (0, 39, 49), (3, 87, 88), (3, 169, 170)] [] []) σ0 (r.1)) := by
  unfold fX12_batteryAt_23
  exact zpc_some h
theorem fN_fX12_batteryAt {σ0 : zSt} {σ : zSt} {x1 : Int32} (h : (zQ [26] [(0, 0, 0), (0, 39, 49), (3, 87, 88), (3, 169, 170)] [] []) σ0 σ) : zpc (fX12_batteryAt σ x1) (fun r => (zQ [26] [(0, 0, 0), (0, 39, 49), (3, 87, 88), (3, 169, 170)] [] []) σ0 (r.1)) := by
  unfold fX12_batteryAt
  exact zpc_ck (zpc_if (fun _ => fN_fX12_batteryAt_23 h) (fun _ => fN_fX12_batteryAt_23 h))
theorem fN_fX12_read_80 {σ0 : zSt} {σ : zSt} {s0 : Int32} (h : (zQ [26] [(0, 0, 0), (0, 39, 49), (3, 87, 88), (3, 169, 170)] [] []) σ0 σ) : zpc (fX12_read_80 σ s0) (fun r => (zQ [26] [(0, 0, 0), (0, 39, 49), (3, 87, 88), (3, 169, 170)] [] []) σ0 (r.1)) := by
  unfold fX12_read_80
  exact zpc_some h
theorem fN_fX12_read_111 {σ0 : zSt} {σ : zSt} {x2 : Int32} {s0 : Int32} (h : (zQ [26] [(0, 0, 0), (0, 39, 49), (3, 87, 88), (3, 169, 170)] [] []) σ0 σ) : zpc (fX12_read_111 σ x2 s0) (fun r => (zQ [26] [(0, 0, 0), (0, 39, 49), (3, 87, 88), (3, 169, 170)] [] []) σ0 (r.1)) := by
  unfold fX12_read_111
  exact zpc_bi (fN_fX12_ofBank h) (fun σ1 v2 hσ1 => zpc_some hσ1)
theorem fN_fX12_read_138 {σ0 : zSt} {σ : zSt} {x2 : Int32} (h : (zQ [26] [(0, 0, 0), (0, 39, 49), (3, 87, 88), (3, 169, 170)] [] []) σ0 σ) : zpc (fX12_read_138 σ x2) (fun r => (zQ [26] [(0, 0, 0), (0, 39, 49), (3, 87, 88), (3, 169, 170)] [] []) σ0 (r.1)) := by
  unfold fX12_read_138
  exact zpc_ck (zpc_ck (zpc_bi (fN_fX12_ofBank h) (fun σ3 v4 hσ3 => zpc_some hσ3)))
theorem fN_fX12_read {σ0 : zSt} {σ : zSt} {x1 : Int32} (h : (zQ [26] [(0, 0, 0), (0, 39, 49), (3, 87, 88), (3, 169, 170)] [] []) σ0 σ) : zpc (fX12_read σ x1) (fun r => (zQ [26] [(0, 0, 0), (0, 39, 49), (3, 87, 88), (3, 169, 170)] [] []) σ0 (r.1)) := by
  unfold fX12_read
  exact zpc_bv (fun v5 _ => zpc_if (fun _ => zpc_bi (fN_fX12_isBattery h) (fun σ6 v7 hσ6 => zpc_if (fun _ => zpc_if (fun _ => zpc_if (fun _ => fN_fX12_read_80 hσ6) (fun _ => zpc_ck (fN_fX12_read_80 hσ6))) (fun _ => zpc_if (fun _ => zpc_if (fun _ => zpc_ck (fN_fX12_read_111 hσ6)) (fun _ => zpc_ck (fN_fX12_read_111 hσ6))) (fun _ => zpc_if (fun _ => zpc_if (fun _ => fN_fX12_read_138 hσ6) (fun _ => zpc_bi (fN_fX12_ofBank hσ6) (fun σ8 v9 hσ8 => zpc_some hσ8))) (fun _ => fN_fX12_read_138 hσ6)))) (fun _ => zpc_bi (fN_fX12_batteryAt hσ6) (fun σ10 v11 hσ10 => zpc_ck (zpc_some hσ10))))) (fun _ => zpc_ck (zpc_ck (zpc_some h))))
theorem fN_fX12_signed_16 {σ0 : zSt} {σ : zSt} {s0 : Int32} (h : (zQ [26] [(0, 0, 0), (0, 39, 49), (3, 87, 88), (3, 169, 170)] [] []) σ0 σ) : zpc (fX12_signed_16 σ s0) (fun r => (zQ [26] [(0, 0, 0), (0, 39, 49), (3, 87, 88), (3, 169, 170)] [] []) σ0 (r.1)) := by
  unfold fX12_signed_16
  exact zpc_some h
theorem fN_fX12_signed {σ0 : zSt} {σ : zSt} {x0 : Int32} (h : (zQ [26] [(0, 0, 0), (0, 39, 49), (3, 87, 88), (3, 169, 170)] [] []) σ0 σ) : zpc (fX12_signed σ x0) (fun r => (zQ [26] [(0, 0, 0), (0, 39, 49), (3, 87, 88), (3, 169, 170)] [] []) σ0 (r.1)) := by
  unfold fX12_signed
  exact zpc_if (fun _ => fN_fX12_signed_16 h) (fun _ => fN_fX12_signed_16 h)
theorem fN_fX12_bit {σ0 : zSt} {σ : zSt} {x1 : Int32} {x2 : Int32} (h : (zQ [26] [(0, 0, 0), (0, 39, 49), (3, 87, 88), (3, 169, 170)] [] []) σ0 σ) : zpc (fX12_bit σ x1 x2) (fun r => (zQ [26] [(0, 0, 0), (0, 39, 49), (3, 87, 88), (3, 169, 170)] [] []) σ0 (r.1)) := by
  unfold fX12_bit
  exact zpc_ck (zpc_some h)
theorem fN_fX12_mode_57 {σ0 : zSt} {σ : zSt} {s0 : Int32} (h : (zQ [26] [(0, 0, 0), (0, 39, 49), (3, 87, 88), (3, 169, 170)] [] []) σ0 σ) : zpc (fX12_mode_57 σ s0) (fun r => (zQ [26] [(0, 0, 0), (0, 39, 49), (3, 87, 88), (3, 169, 170)] [] []) σ0 (r.1)) := by
  unfold fX12_mode_57
  exact zpc_some h
theorem fN_fX12_mode {σ0 : zSt} {σ : zSt} (h : (zQ [26] [(0, 0, 0), (0, 39, 49), (3, 87, 88), (3, 169, 170)] [] []) σ0 σ) : zpc (fX12_mode σ) (fun r => (zQ [26] [(0, 0, 0), (0, 39, 49), (3, 87, 88), (3, 169, 170)] [] []) σ0 (r.1)) := by
  unfold fX12_mode
  exact zpc_bi (fN_fX12_bit h) (fun σ1 v2 hσ1 => zpc_if (fun _ => fN_fX12_mode_57 hσ1) (fun _ => zpc_bi (fN_fX12_bit hσ1) (fun σ3 v4 hσ3 => zpc_if (fun _ => fN_fX12_mode_57 hσ3) (fun _ => zpc_bi (fN_fX12_bit hσ3) (fun σ5 v6 hσ5 => zpc_if (fun _ => fN_fX12_mode_57 hσ5) (fun _ => zpc_bi (fN_fX12_bit hσ5) (fun σ7 v8 hσ7 => zpc_if (fun _ => fN_fX12_mode_57 hσ7) (fun _ => fN_fX12_mode_57 hσ7))))))))
theorem fN_fX12_height_32 {σ0 : zSt} {σ : zSt} (h : (zQ [26] [(0, 0, 0), (0, 39, 49), (3, 87, 88), (3, 169, 170)] [] []) σ0 σ) : zpc (fX12_height_32 σ) (fun r => (zQ [26] [(0, 0, 0), (0, 39, 49), (3, 87, 88), (3, 169, 170)] [] []) σ0 (r.1)) := by
  unfold fX12_height_32
  exact zpc_some h
theorem fN_fX12_height_55 {σ0 : zSt} {σ : zSt} {s0 : Int32} (h : (zQ [26] [(0, 0, 0), (0, 39, 49), (3, 87, 88), (3, 169, 170)] [] []) σ0 σ) : zpc (fX12_height_55 σ s0) (fun r => (zQ [26] [(0, 0, 0), (0, 39, 49), (3, 87, 88), (3, 169, 170)] [] []) σ0 (r.1)) := by
  unfold fX12_height_55
  exact zpc_some h
theorem fN_fX12_height {σ0 : zSt} {σ : zSt} (h : (zQ [26] [(0, 0, 0), (0, 39, 49), (3, 87, 88), (3, 169, 170)] [] []) σ0 σ) : zpc (fX12_height σ) (fun r => (zQ [26] [(0, 0, 0), (0, 39, 49), (3, 87, 88), (3, 169, 170)] [] []) σ0 (r.1)) := by
  unfold fX12_height
  exact zpc_bi (fN_fX12_mode h) (fun σ1 v2 hσ1 => zpc_if (fun _ => zpc_bi (fN_fX12_bit hσ1) (fun σ3 v4 hσ3 => zpc_if (fun _ => fN_fX12_height_32 hσ3) (fun _ => zpc_bi (fN_fX12_bit hσ3) (fun σ5 v6 hσ5 => zpc_bi (fN_fX12_bit hσ5) (fun σ7 v8 hσ7 => zpc_if (fun _ => fN_fX12_height_32 hσ7) (fun _ => zpc_bi (fN_fX12_bit hσ7) (fun σ9 v10 hσ9 => zpc_if (fun _ => fN_fX12_height_55 hσ9) (fun _ => fN_fX12_height_55 hσ9)))))))) (fun _ => fN_fX12_height_32 hσ1))
theorem fN_fX12_vCount_109 {σ0 : zSt} {σ : zSt} {s0 : Int32} (h : (zQ [26] [(0, 0, 0), (0, 39, 49), (3, 87, 88), (3, 169, 170)] [] []) σ0 σ) : zpc (fX12_vCount_109 σ s0) (fun r => (zQ [26] [(0, 0, 0), (0, 39, 49), (3, 87, 88), (3, 169, 170)] [] []) σ0 (r.1)) := by
  unfold fX12_vCount_109
  exact zpc_some h
theorem fN_fX12_vCount_108 {σ0 : zSt} {σ : zSt} {s0 : Int32} {s1 : Int32} (h : (zQ [26] [(0, 0, 0), (0, 39, 49), (3, 87, 88), (3, 169, 170)] [] []) σ0 σ) : zpc (fX12_vCount_108 σ s0 s1) (fun r => (zQ [26] [(0, 0, 0), (0, 39, 49), (3, 87, 88), (3, 169, 170)] [] []) σ0 (r.1)) := by
  unfold fX12_vCount_108
  exact fN_fX12_vCount_109 h
theorem fN_fX12_vCount_82 {σ0 : zSt} {σ : zSt} {x1 : Int32} {s0 : Int32} (h : (zQ [26] [(0, 0, 0), (0, 39, 49), (3, 87, 88), (3, 169, 170)] [] []) σ0 σ) : zpc (fX12_vCount_82 σ x1 s0) (fun r => (zQ [26] [(0, 0, 0), (0, 39, 49), (3, 87, 88), (3, 169, 170)] [] []) σ0 (r.1)) := by
  unfold fX12_vCount_82
  exact zpc_if (fun _ => zpc_if (fun _ => fN_fX12_vCount_108 h) (fun _ => fN_fX12_vCount_108 h)) (fun _ => fN_fX12_vCount_109 h)
theorem fN_fX12_vCount {σ0 : zSt} {σ : zSt} (h : (zQ [26] [(0, 0, 0), (0, 39, 49), (3, 87, 88), (3, 169, 170)] [] []) σ0 σ) : zpc (fX12_vCount σ) (fun r => (zQ [26] [(0, 0, 0), (0, 39, 49), (3, 87, 88), (3, 169, 170)] [] []) σ0 (r.1)) := by
  unfold fX12_vCount
  exact zpc_ck (zpc_bv (fun v1 _ => zpc_bi (fN_fX12_height h) (fun σ2 v3 hσ2 => zpc_if (fun _ => zpc_if (fun _ => fN_fX12_vCount_82 hσ2) (fun _ => zpc_if (fun _ => fN_fX12_vCount_82 hσ2) (fun _ => fN_fX12_vCount_82 hσ2))) (fun _ => zpc_if (fun _ => fN_fX12_vCount_82 hσ2) (fun _ => zpc_if (fun _ => fN_fX12_vCount_82 hσ2) (fun _ => fN_fX12_vCount_82 hσ2))))))
theorem fN_fX12_video8 {σ0 : zSt} {σ : zSt} {x1 : Int32} (h : (zQ [26] [(0, 0, 0), (0, 39, 49), (3, 87, 88), (3, 169, 170)] [] []) σ0 σ) : zpc (fX12_video8 σ x1) (fun r => (zQ [26] [(0, 0, 0), (0, 39, 49), (3, 87, 88), (3, 169, 170)] [] []) σ0 (r.1)) := by
  unfold fX12_video8
  exact zpc_ck (zpc_some h)
theorem fN_fX12_hCount_27 {σ0 : zSt} {σ : zSt} {s0 : Int32} (h : (zQ [26] [(0, 0, 0), (0, 39, 49), (3, 87, 88), (3, 169, 170)] [] []) σ0 σ) : zpc (fX12_hCount_27 σ s0) (fun r => (zQ [26] [(0, 0, 0), (0, 39, 49), (3, 87, 88), (3, 169, 170)] [] []) σ0 (r.1)) := by
  unfold fX12_hCount_27
  exact zpc_some h
theorem fN_fX12_hCount {σ0 : zSt} {σ : zSt} (h : (zQ [26] [(0, 0, 0), (0, 39, 49), (3, 87, 88), (3, 169, 170)] [] []) σ0 σ) : zpc (fX12_hCount σ) (fun r => (zQ [26] [(0, 0, 0), (0, 39, 49), (3, 87, 88), (3, 169, 170)] [] []) σ0 (r.1)) := by
  unfold fX12_hCount
  exact zpc_ck (zpc_ck (zpc_bv (fun v1 _ => zpc_if (fun _ => fN_fX12_hCount_27 h) (fun _ => fN_fX12_hCount_27 h))))
theorem fN_fX12_wreg {σ0 : zSt} {σ : zSt} {x1 : Int32} (h : (zQ [26] [(0, 0, 0), (0, 39, 49), (3, 87, 88), (3, 169, 170)] [] []) σ0 σ) : zpc (fX12_wreg σ x1) (fun r => (zQ [26] [(0, 0, 0), (0, 39, 49), (3, 87, 88), (3, 169, 170)] [] []) σ0 (r.1)) := by
  unfold fX12_wreg
  exact zpc_ck (zpc_some h)
theorem fN_fX12_asks_48 {σ0 : zSt} {σ : zSt} {s0 : Int32} (h : (zQ [26] [(0, 0, 0), (0, 39, 49), (3, 87, 88), (3, 169, 170)] [] []) σ0 σ) : zpc (fX12_asks_48 σ s0) (fun r => (zQ [26] [(0, 0, 0), (0, 39, 49), (3, 87, 88), (3, 169, 170)] [] []) σ0 (r.1)) := by
  unfold fX12_asks_48
  exact zpc_ck (zpc_some h)
theorem fN_fX12_asks_47 {σ0 : zSt} {σ : zSt} (h : (zQ [26] [(0, 0, 0), (0, 39, 49), (3, 87, 88), (3, 169, 170)] [] []) σ0 σ) : zpc (fX12_asks_47 σ) (fun r => (zQ [26] [(0, 0, 0), (0, 39, 49), (3, 87, 88), (3, 169, 170)] [] []) σ0 (r.1)) := by
  unfold fX12_asks_47
  exact fN_fX12_asks_48 h
theorem fN_fX12_asks_43 {σ0 : zSt} {σ : zSt} (h : (zQ [26] [(0, 0, 0), (0, 39, 49), (3, 87, 88), (3, 169, 170)] [] []) σ0 σ) : zpc (fX12_asks_43 σ) (fun r => (zQ [26] [(0, 0, 0), (0, 39, 49), (3, 87, 88), (3, 169, 170)] [] []) σ0 (r.1)) := by
  unfold fX12_asks_43
  exact fN_fX12_asks_48 h
theorem fN_fX12_asks_22 {σ0 : zSt} {σ : zSt} (h : (zQ [26] [(0, 0, 0), (0, 39, 49), (3, 87, 88), (3, 169, 170)] [] []) σ0 σ) : zpc (fX12_asks_22 σ) (fun r => (zQ [26] [(0, 0, 0), (0, 39, 49), (3, 87, 88), (3, 169, 170)] [] []) σ0 (r.1)) := by
  unfold fX12_asks_22
  exact zpc_bi (fN_fX12_bit h) (fun σ1 v2 hσ1 => zpc_if (fun _ => zpc_ck (zpc_if (fun _ => fN_fX12_asks_43 hσ1) (fun _ => fN_fX12_asks_47 hσ1))) (fun _ => fN_fX12_asks_47 hσ1))
theorem fN_fX12_asks {σ0 : zSt} {σ : zSt} (h : (zQ [26] [(0, 0, 0), (0, 39, 49), (3, 87, 88), (3, 169, 170)] [] []) σ0 σ) : zpc (fX12_asks σ) (fun r => (zQ [26] [(0, 0, 0), (0, 39, 49), (3, 87, 88), (3, 169, 170)] [] []) σ0 (r.1)) := by
  unfold fX12_asks
  exact zpc_bi (fN_fX12_bit h) (fun σ3 v4 hσ3 => zpc_if (fun _ => zpc_ck (zpc_if (fun _ => fN_fX12_asks_43 hσ3) (fun _ => fN_fX12_asks_22 hσ3))) (fun _ => fN_fX12_asks_22 hσ3))
theorem fN_fX12_dot_103 {σ0 : zSt} {σ : zSt} {s0 : Int32} (h : (zQ [26] [(0, 0, 0), (0, 39, 49), (3, 87, 88), (3, 169, 170)] [] []) σ0 σ) : zpc (fX12_dot_103 σ s0) (fun r => (zQ [26] [(0, 0, 0), (0, 39, 49), (3, 87, 88), (3, 169, 170)] [] []) σ0 (r.1)) := by
  unfold fX12_dot_103
  exact zpc_ck (zpc_some h)
theorem fN_fX12_dot_63 {σ0 : zSt} {σ : zSt} {x1 : Int32} {x2 : Int32} {x3 : Int32} {s0 : Int32} (h : (zQ [26] [(0, 0, 0), (0, 39, 49), (3, 87, 88), (3, 169, 170)] [] []) σ0 σ) : zpc (fX12_dot_63 σ x1 x2 x3 s0) (fun r => (zQ [26] [(0, 0, 0), (0, 39, 49), (3, 87, 88), (3, 169, 170)] [] []) σ0 (r.1)) := by
  unfold fX12_dot_63
  exact zpc_bi (fN_fX12_fails h) (fun σ1 v2 hσ1 => zpc_if (fun _ => zpc_if (fun _ => fN_fX12_dot_103 hσ1) (fun _ => fN_fX12_dot_103 hσ1)) (fun _ => zpc_some hσ1))
theorem fN_fX12_dot_58 {σ0 : zSt} {σ : zSt} {x1 : Int32} {x2 : Int32} {x3 : Int32} (h : (zQ [26] [(0, 0, 0), (0, 39, 49), (3, 87, 88), (3, 169, 170)] [] []) σ0 σ) : zpc (fX12_dot_58 σ x1 x2 x3) (fun r => (zQ [26] [(0, 0, 0), (0, 39, 49), (3, 87, 88), (3, 169, 170)] [] []) σ0 (r.1)) := by
  unfold fX12_dot_58
  exact fN_fX12_dot_63 h
theorem fN_fX12_dot_55 {σ0 : zSt} {σ : zSt} {x1 : Int32} {x2 : Int32} {x3 : Int32} {s0 : Int32} {s1 : Int32} (h : (zQ [26] [(0, 0, 0), (0, 39, 49), (3, 87, 88), (3, 169, 170)] [] []) σ0 σ) : zpc (fX12_dot_55 σ x1 x2 x3 s0 s1) (fun r => (zQ [26] [(0, 0, 0), (0, 39, 49), (3, 87, 88), (3, 169, 170)] [] []) σ0 (r.1)) := by
  unfold fX12_dot_55
  exact zpc_if (fun _ => fN_fX12_dot_63 h) (fun _ => fN_fX12_dot_58 h)
theorem fN_fX12_dot_37 {σ0 : zSt} {σ : zSt} {x1 : Int32} {x2 : Int32} {x3 : Int32} {s0 : Int32} {s1 : Int32} (h : (zQ [26] [(0, 0, 0), (0, 39, 49), (3, 87, 88), (3, 169, 170)] [] []) σ0 σ) : zpc (fX12_dot_37 σ x1 x2 x3 s0 s1) (fun r => (zQ [26] [(0, 0, 0), (0, 39, 49), (3, 87, 88), (3, 169, 170)] [] []) σ0 (r.1)) := by
  unfold fX12_dot_37
  exact zpc_if (fun _ => fN_fX12_dot_58 h) (fun _ => zpc_if (fun _ => zpc_bi (fN_fX12_height h) (fun σ3 v4 hσ3 => fN_fX12_dot_55 hσ3)) (fun _ => fN_fX12_dot_55 h))
theorem fN_fX12_dot_13 {σ0 : zSt} {σ : zSt} {x1 : Int32} {x2 : Int32} {s0 : Int32} (h : (zQ [26] [(0, 0, 0), (0, 39, 49), (3, 87, 88), (3, 169, 170)] [] []) σ0 σ) : zpc (fX12_dot_13 σ x1 x2 s0) (fun r => (zQ [26] [(0, 0, 0), (0, 39, 49), (3, 87, 88), (3, 169, 170)] [] []) σ0 (r.1)) := by
  unfold fX12_dot_13
  exact zpc_if (fun _ => fN_fX12_dot_58 h) (fun _ => zpc_if (fun _ => fN_fX12_dot_58 h) (fun _ => zpc_if (fun _ => fN_fX12_dot_37 h) (fun _ => fN_fX12_dot_37 h)))
theorem fN_fX12_dot {σ0 : zSt} {σ : zSt} {x1 : Int32} {x2 : Int32} (h : (zQ [26] [(0, 0, 0), (0, 39, 49), (3, 87, 88), (3, 169, 170)] [] []) σ0 σ) : zpc (fX12_dot σ x1 x2) (fun r => (zQ [26] [(0, 0, 0), (0, 39, 49), (3, 87, 88), (3, 169, 170)] [] []) σ0 (r.1)) := by
  unfold fX12_dot
  exact zpc_if (fun _ => fN_fX12_dot_13 h) (fun _ => fN_fX12_dot_13 h)
theorem fN_fX12_row_111 {σ0 : zSt} {k56 : zSt → Int32 → Int32 → Int32 → Int32 → Option (zSt × Int32)} (hk56 : ∀ (y0 : zSt) (y1 : Int32) (y2 : Int32) (y3 : Int32) (y4 : Int32), (zQ [26] [(0, 0, 0), (0, 39, 49), (3, 87, 88), (3, 169, 170)] [] []) σ0 y0 → zpc (k56 y0 y1 y2 y3 y4) (fun r => (zQ [26] [(0, 0, 0), (0, 39, 49), (3, 87, 88), (3, 169, 170)] [] []) σ0 (r.1))) {σ : zSt} {x1 : Int32} {x2 : Int32} {x4 : Int32} {s0 : Int32} {s2 : Int32} (h : (zQ [26] [(0, 0, 0), (0, 39, 49), (3, 87, 88), (3, 169, 170)] [] []) σ0 σ) : zpc (fX12_row_111 k56 σ x1 x2 x4 s0 s2) (fun r => (zQ [26] [(0, 0, 0), (0, 39, 49), (3, 87, 88), (3, 169, 170)] [] []) σ0 (r.1)) := by
  unfold fX12_row_111
  exact zpc_ck (zpc_bv (fun v1 _ => zpc_bv (fun v2 _ => hk56 _ _ _ _ _ h)))
theorem fN_fX12_row_71 {σ0 : zSt} {k56 : zSt → Int32 → Int32 → Int32 → Int32 → Option (zSt × Int32)} (hk56 : ∀ (y0 : zSt) (y1 : Int32) (y2 : Int32) (y3 : Int32) (y4 : Int32), (zQ [26] [(0, 0, 0), (0, 39, 49), (3, 87, 88), (3, 169, 170)] [] []) σ0 y0 → zpc (k56 y0 y1 y2 y3 y4) (fun r => (zQ [26] [(0, 0, 0), (0, 39, 49), (3, 87, 88), (3, 169, 170)] [] []) σ0 (r.1))) {σ : zSt} {x1 : Int32} {x2 : Int32} {x3 : Int32} {x4 : Int32} {s0 : Int32} {s1 : Int32} (h : (zQ [26] [(0, 0, 0), (0, 39, 49), (3, 87, 88), (3, 169, 170)] [] []) σ0 σ) : zpc (fX12_row_71 k56 σ x1 x2 x3 x4 s0 s1) (fun r => (zQ [26] [(0, 0, 0), (0, 39, 49), (3, 87, 88), (3, 169, 170)] [] []) σ0 (r.1)) := by
  unfold fX12_row_71
  exact zpc_if (fun _ => zpc_some h) (fun _ => zpc_if (fun _ => fN_fX12_row_111 hk56 h) (fun _ => fN_fX12_row_111 hk56 h))
theorem fN_fX12_row_56_body {σ0 : zSt} {k56 : zSt → Int32 → Int32 → Int32 → Int32 → Option (zSt × Int32)} (hk56 : ∀ (y0 : zSt) (y1 : Int32) (y2 : Int32) (y3 : Int32) (y4 : Int32), (zQ [26] [(0, 0, 0), (0, 39, 49), (3, 87, 88), (3, 169, 170)] [] []) σ0 y0 → zpc (k56 y0 y1 y2 y3 y4) (fun r => (zQ [26] [(0, 0, 0), (0, 39, 49), (3, 87, 88), (3, 169, 170)] [] []) σ0 (r.1))) {σ : zSt} {x1 : Int32} {x2 : Int32} {x3 : Int32} {x4 : Int32} (h : (zQ [26] [(0, 0, 0), (0, 39, 49), (3, 87, 88), (3, 169, 170)] [] []) σ0 σ) : zpc (fX12_row_56_body k56 σ x1 x2 x3 x4) (fun r => (zQ [26] [(0, 0, 0), (0, 39, 49), (3, 87, 88), (3, 169, 170)] [] []) σ0 (r.1)) := by
  unfold fX12_row_56_body
  exact zpc_if (fun _ => fN_fX12_row_71 hk56 h) (fun _ => fN_fX12_row_71 hk56 h)
theorem fN_fX12_row_56 {σ0 : zSt} : ∀ (n : Nat) (y0 : zSt) (y1 : Int32) (y2 : Int32) (y3 : Int32) (y4 : Int32), (zQ [26] [(0, 0, 0), (0, 39, 49), (3, 87, 88), (3, 169, 170)] [] []) σ0 y0 → zpc (fX12_row_56 n y0 y1 y2 y3 y4) (fun r => (zQ [26] [(0, 0, 0), (0, 39, 49), (3, 87, 88), (3, 169, 170)] [] []) σ0 (r.1)) := by
  intro n
  induction n with
  | zero => intro y0 y1 y2 y3 y4 h; exact zpc_none
  | succ n ih => intro y0 y1 y2 y3 y4 h; exact fN_fX12_row_56_body ih h
theorem fN_fX12_row_42 {σ0 : zSt} {σ : zSt} {x1 : Int32} {x2 : Int32} {s0 : Int32} (h : (zQ [26] [(0, 0, 0), (0, 39, 49), (3, 87, 88), (3, 169, 170)] [] []) σ0 σ) : zpc (fX12_row_42 σ x1 x2 s0) (fun r => (zQ [26] [(0, 0, 0), (0, 39, 49), (3, 87, 88), (3, 169, 170)] [] []) σ0 (r.1)) := by
  unfold fX12_row_42
  exact zpc_bi (fN_fX12_fails h) (fun σ3 v4 hσ3 => zpc_if (fun _ => fN_fX12_row_56 _ _ _ _ _ _ hσ3) (fun _ => zpc_some hσ3))
theorem fN_fX12_row_37 {σ0 : zSt} {σ : zSt} {x1 : Int32} {x2 : Int32} (h : (zQ [26] [(0, 0, 0), (0, 39, 49), (3, 87, 88), (3, 169, 170)] [] []) σ0 σ) : zpc (fX12_row_37 σ x1 x2) (fun r => (zQ [26] [(0, 0, 0), (0, 39, 49), (3, 87, 88), (3, 169, 170)] [] []) σ0 (r.1)) := by
  unfold fX12_row_37
  exact fN_fX12_row_42 h
theorem fN_fX12_row_34 {σ0 : zSt} {σ : zSt} {x1 : Int32} {x2 : Int32} {s0 : Int32} {s1 : Int32} (h : (zQ [26] [(0, 0, 0), (0, 39, 49), (3, 87, 88), (3, 169, 170)] [] []) σ0 σ) : zpc (fX12_row_34 σ x1 x2 s0 s1) (fun r => (zQ [26] [(0, 0, 0), (0, 39, 49), (3, 87, 88), (3, 169, 170)] [] []) σ0 (r.1)) := by
  unfold fX12_row_34
  exact zpc_if (fun _ => fN_fX12_row_42 h) (fun _ => fN_fX12_row_37 h)
theorem fN_fX12_row_13 {σ0 : zSt} {σ : zSt} {x1 : Int32} {s0 : Int32} (h : (zQ [26] [(0, 0, 0), (0, 39, 49), (3, 87, 88), (3, 169, 170)] [] []) σ0 σ) : zpc (fX12_row_13 σ x1 s0) (fun r => (zQ [26] [(0, 0, 0), (0, 39, 49), (3, 87, 88), (3, 169, 170)] [] []) σ0 (r.1)) := by
  unfold fX12_row_13
  exact zpc_if (fun _ => fN_fX12_row_37 h) (fun _ => zpc_if (fun _ => zpc_bi (fN_fX12_height h) (fun σ5 v6 hσ5 => fN_fX12_row_34 hσ5)) (fun _ => fN_fX12_row_34 h))
theorem fN_fX12_row {σ0 : zSt} {σ : zSt} {x1 : Int32} (h : (zQ [26] [(0, 0, 0), (0, 39, 49), (3, 87, 88), (3, 169, 170)] [] []) σ0 σ) : zpc (fX12_row σ x1) (fun r => (zQ [26] [(0, 0, 0), (0, 39, 49), (3, 87, 88), (3, 169, 170)] [] []) σ0 (r.1)) := by
  unfold fX12_row
  exact zpc_if (fun _ => fN_fX12_row_13 h) (fun _ => fN_fX12_row_13 h)
theorem fN_fX12_hear_16 {σ0 : zSt} {σ : zSt} {s0 : Int32} (h : (zQ [26] [(0, 0, 0), (0, 39, 49), (3, 87, 88), (3, 169, 170)] [] []) σ0 σ) : zpc (fX12_hear_16 σ s0) (fun r => (zQ [26] [(0, 0, 0), (0, 39, 49), (3, 87, 88), (3, 169, 170)] [] []) σ0 (r.1)) := by
  unfold fX12_hear_16
  exact zpc_bi (fN_fX12_fails h) (fun σ1 v2 hσ1 => zpc_if (fun _ => zpc_ck (zpc_ck (zpc_bv (fun v3 _ => zpc_ck (zpc_ck (zpc_ck (zpc_bs (zQ.wi hσ1 rfl) (fun σ4 hσ4 => zpc_ck (zpc_ck (zpc_bs (zQ.wi hσ4 rfl) (fun σ5 hσ5 => zpc_some hσ5))))))))))) (fun _ => zpc_some hσ1))
theorem fN_fX12_hear {σ0 : zSt} {σ : zSt} (h : (zQ [26] [(0, 0, 0), (0, 39, 49), (3, 87, 88), (3, 169, 170)] [] []) σ0 σ) : zpc (fX12_hear σ) (fun r => (zQ [26] [(0, 0, 0), (0, 39, 49), (3, 87, 88), (3, 169, 170)] [] []) σ0 (r.1)) := by
  unfold fX12_hear
  exact zpc_ck (zpc_if (fun _ => fN_fX12_hear_16 h) (fun _ => fN_fX12_hear_16 h))
theorem fN_fX12_sound_52 {σ0 : zSt} {σ : zSt} {s0 : Int32} (h : (zQ [26] [(0, 0, 0), (0, 39, 49), (3, 87, 88), (3, 169, 170)] [] []) σ0 σ) : zpc (fX12_sound_52 σ s0) (fun r => (zQ [26] [(0, 0, 0), (0, 39, 49), (3, 87, 88), (3, 169, 170)] [] []) σ0 (r.1)) := by
  unfold fX12_sound_52
  exact zpc_some h
theorem fN_fX12_sound_18 {σ0 : zSt} {σ : zSt} {x1 : Int32} {s0 : Int32} (h : (zQ [26] [(0, 0, 0), (0, 39, 49), (3, 87, 88), (3, 169, 170)] [] []) σ0 σ) : zpc (fX12_sound_18 σ x1 s0) (fun r => (zQ [26] [(0, 0, 0), (0, 39, 49), (3, 87, 88), (3, 169, 170)] [] []) σ0 (r.1)) := by
  unfold fX12_sound_18
  exact zpc_bi (fN_fX12_fails h) (fun σ1 v2 hσ1 => zpc_if (fun _ => zpc_if (fun _ => zpc_ck (fN_fX12_sound_52 hσ1)) (fun _ => zpc_ck (fN_fX12_sound_52 hσ1))) (fun _ => zpc_some hσ1))
theorem fN_fX12_sound {σ0 : zSt} {σ : zSt} {x1 : Int32} (h : (zQ [26] [(0, 0, 0), (0, 39, 49), (3, 87, 88), (3, 169, 170)] [] []) σ0 σ) : zpc (fX12_sound σ x1) (fun r => (zQ [26] [(0, 0, 0), (0, 39, 49), (3, 87, 88), (3, 169, 170)] [] []) σ0 (r.1)) := by
  unfold fX12_sound
  exact zpc_bi (fN_fX12_within h) (fun σ3 v4 hσ3 => zpc_if (fun _ => fN_fX12_sound_18 hσ3) (fun _ => fN_fX12_sound_18 hσ3))
theorem fN_fX12_register_35 {σ0 : zSt} {σ : zSt} {s0 : Int32} (h : (zQ [26] [(0, 0, 0), (0, 39, 49), (3, 87, 88), (3, 169, 170)] [] []) σ0 σ) : zpc (fX12_register_35 σ s0) (fun r => (zQ [26] [(0, 0, 0), (0, 39, 49), (3, 87, 88), (3, 169, 170)] [] []) σ0 (r.1)) := by
  unfold fX12_register_35
  exact zpc_some h
theorem fN_fX12_register_18 {σ0 : zSt} {σ : zSt} {x1 : Int32} {s0 : Int32} (h : (zQ [26] [(0, 0, 0), (0, 39, 49), (3, 87, 88), (3, 169, 170)] [] []) σ0 σ) : zpc (fX12_register_18 σ x1 s0) (fun r => (zQ [26] [(0, 0, 0), (0, 39, 49), (3, 87, 88), (3, 169, 170)] [] []) σ0 (r.1)) := by
  unfold fX12_register_18
  exact zpc_bi (fN_fX12_fails h) (fun σ1 v2 hσ1 => zpc_if (fun _ => zpc_ck (fN_fX12_register_35 hσ1)) (fun _ => fN_fX12_register_35 hσ1))
theorem fN_fX12_register {σ0 : zSt} {σ : zSt} {x1 : Int32} (h : (zQ [26] [(0, 0, 0), (0, 39, 49), (3, 87, 88), (3, 169, 170)] [] []) σ0 σ) : zpc (fX12_register σ x1) (fun r => (zQ [26] [(0, 0, 0), (0, 39, 49), (3, 87, 88), (3, 169, 170)] [] []) σ0 (r.1)) := by
  unfold fX12_register
  exact zpc_bi (fN_fX12_within h) (fun σ3 v4 hσ3 => zpc_if (fun _ => fN_fX12_register_18 hσ3) (fun _ => fN_fX12_register_18 hσ3))
theorem fN_fX12_peek {σ0 : zSt} {σ : zSt} {x1 : Int32} (h : (zQ [26] [(0, 0, 0), (0, 39, 49), (3, 87, 88), (3, 169, 170)] [] []) σ0 σ) : zpc (fX12_peek σ x1) (fun r => (zQ [26] [(0, 0, 0), (0, 39, 49), (3, 87, 88), (3, 169, 170)] [] []) σ0 (r.1)) := by
  unfold fX12_peek
  exact zpc_bs (zQ.wi h rfl) (fun σ1 hσ1 => zpc_bi (fN_fX12_read hσ1) (fun σ2 v3 hσ2 => zpc_some hσ2))
theorem fN_fX12_battery_39 {σ0 : zSt} {σ : zSt} {s0 : Int32} (h : (zQ [26] [(0, 0, 0), (0, 39, 49), (3, 87, 88), (3, 169, 170)] [] []) σ0 σ) : zpc (fX12_battery_39 σ s0) (fun r => (zQ [26] [(0, 0, 0), (0, 39, 49), (3, 87, 88), (3, 169, 170)] [] []) σ0 (r.1)) := by
  unfold fX12_battery_39
  exact zpc_some h
theorem fN_fX12_battery_18 {σ0 : zSt} {σ : zSt} {x1 : Int32} {s0 : Int32} (h : (zQ [26] [(0, 0, 0), (0, 39, 49), (3, 87, 88), (3, 169, 170)] [] []) σ0 σ) : zpc (fX12_battery_18 σ x1 s0) (fun r => (zQ [26] [(0, 0, 0), (0, 39, 49), (3, 87, 88), (3, 169, 170)] [] []) σ0 (r.1)) := by
  unfold fX12_battery_18
  exact zpc_bi (fN_fX12_fails h) (fun σ1 v2 hσ1 => zpc_if (fun _ => zpc_ck (fN_fX12_battery_39 hσ1)) (fun _ => fN_fX12_battery_39 hσ1))
theorem fN_fX12_battery {σ0 : zSt} {σ : zSt} {x1 : Int32} (h : (zQ [26] [(0, 0, 0), (0, 39, 49), (3, 87, 88), (3, 169, 170)] [] []) σ0 σ) : zpc (fX12_battery σ x1) (fun r => (zQ [26] [(0, 0, 0), (0, 39, 49), (3, 87, 88), (3, 169, 170)] [] []) σ0 (r.1)) := by
  unfold fX12_battery
  exact zpc_bi (fN_fX12_within h) (fun σ3 v4 hσ3 => zpc_if (fun _ => fN_fX12_battery_18 hσ3) (fun _ => fN_fX12_battery_18 hσ3))
theorem fN_fX12_video_11_body {σ0 : zSt} {k11 : zSt → Int32 → Int64 → Int32 → Option (zSt × Int64)} (hk11 : ∀ (y0 : zSt) (y1 : Int32) (y2 : Int64) (y3 : Int32), (zQ [26] [(0, 0, 0), (0, 39, 49), (3, 87, 88), (3, 169, 170)] [] []) σ0 y0 → zpc (k11 y0 y1 y2 y3) (fun r => (zQ [26] [(0, 0, 0), (0, 39, 49), (3, 87, 88), (3, 169, 170)] [] []) σ0 (r.1))) {σ : zSt} {x1 : Int32} {x2 : Int64} {x4 : Int32} (h : (zQ [26] [(0, 0, 0), (0, 39, 49), (3, 87, 88), (3, 169, 170)] [] []) σ0 σ) : zpc (fX12_video_11_body k11 σ x1 x2 x4) (fun r => (zQ [26] [(0, 0, 0), (0, 39, 49), (3, 87, 88), (3, 169, 170)] [] []) σ0 (r.1)) := by
  unfold fX12_video_11_body
  exact zpc_if (fun _ => zpc_some h) (fun _ => zpc_bi (fN_fX12_video8 h) (fun σ1 v2 hσ1 => zpc_bv (fun v3 _ => zpc_bv (fun v4 _ => hk11 _ _ _ _ hσ1))))
theorem fN_fX12_video_11 {σ0 : zSt} : ∀ (n : Nat) (y0 : zSt) (y1 : Int32) (y2 : Int64) (y3 : Int32), (zQ [26] [(0, 0, 0), (0, 39, 49), (3, 87, 88), (3, 169, 170)] [] []) σ0 y0 → zpc (fX12_video_11 n y0 y1 y2 y3) (fun r => (zQ [26] [(0, 0, 0), (0, 39, 49), (3, 87, 88), (3, 169, 170)] [] []) σ0 (r.1)) := by
  intro n
  induction n with
  | zero => intro y0 y1 y2 y3 h; exact zpc_none
  | succ n ih => intro y0 y1 y2 y3 h; exact fN_fX12_video_11_body ih h
theorem fN_fX12_video {σ0 : zSt} {σ : zSt} {x1 : Int32} (h : (zQ [26] [(0, 0, 0), (0, 39, 49), (3, 87, 88), (3, 169, 170)] [] []) σ0 σ) : zpc (fX12_video σ x1) (fun r => (zQ [26] [(0, 0, 0), (0, 39, 49), (3, 87, 88), (3, 169, 170)] [] []) σ0 (r.1)) := by
  unfold fX12_video
  exact zpc_bs (zQ.wi h rfl) (fun σ5 hσ5 => fN_fX12_video_11 _ _ _ _ _ hσ5)
theorem fN_fX12_chip_136 {σ0 : zSt} {σ : zSt} {s0 : Int32} (h : (zQ [26] [(0, 0, 0), (0, 39, 49), (3, 87, 88), (3, 169, 170)] [] []) σ0 σ) : zpc (fX12_chip_136 σ s0) (fun r => (zQ [26] [(0, 0, 0), (0, 39, 49), (3, 87, 88), (3, 169, 170)] [] []) σ0 (r.1)) := by
  unfold fX12_chip_136
  exact zpc_some h
theorem fN_fX12_chip_32 {σ0 : zSt} {σ : zSt} {x1 : Int32} {s0 : Int32} (h : (zQ [26] [(0, 0, 0), (0, 39, 49), (3, 87, 88), (3, 169, 170)] [] []) σ0 σ) : zpc (fX12_chip_32 σ x1 s0) (fun r => (zQ [26] [(0, 0, 0), (0, 39, 49), (3, 87, 88), (3, 169, 170)] [] []) σ0 (r.1)) := by
  unfold fX12_chip_32
  exact zpc_bi (fN_fX12_fails h) (fun σ1 v2 hσ1 => zpc_if (fun _ => zpc_if (fun _ => zpc_if (fun _ => zpc_if (fun _ => zpc_bi (fN_fX12_asks hσ1) (fun σ3 v4 hσ3 => zpc_if (fun _ => fN_fX12_chip_136 hσ3) (fun _ => fN_fX12_chip_136 hσ3))) (fun _ => zpc_if (fun _ => zpc_ck (zpc_some hσ1)) (fun _ => zpc_if (fun _ => zpc_ck (zpc_some hσ1)) (fun _ => zpc_if (fun _ => zpc_ck (zpc_some hσ1)) (fun _ => zpc_if (fun _ => zpc_ck (zpc_some hσ1)) (fun _ => zpc_if (fun _ => zpc_bi (fN_fX12_mode hσ1) (fun σ5 v6 hσ5 => zpc_some hσ5)) (fun _ => zpc_if (fun _ => zpc_bi (fN_fX12_height hσ1) (fun σ7 v8 hσ7 => zpc_some hσ7)) (fun _ => zpc_if (fun _ => zpc_bi (fN_fX12_hCount hσ1) (fun σ9 v10 hσ9 => zpc_some hσ9)) (fun _ => zpc_bi (fN_fX12_vCount hσ1) (fun σ11 v12 hσ11 => zpc_some hσ11)))))))))) (fun _ => zpc_ck (zpc_some hσ1))) (fun _ => zpc_ck (zpc_some hσ1))) (fun _ => zpc_some hσ1))
theorem fN_fX12_chip_31 {σ0 : zSt} {σ : zSt} {x1 : Int32} (h : (zQ [26] [(0, 0, 0), (0, 39, 49), (3, 87, 88), (3, 169, 170)] [] []) σ0 σ) : zpc (fX12_chip_31 σ x1) (fun r => (zQ [26] [(0, 0, 0), (0, 39, 49), (3, 87, 88), (3, 169, 170)] [] []) σ0 (r.1)) := by
  unfold fX12_chip_31
  exact fN_fX12_chip_32 h
theorem fN_fX12_chip {σ0 : zSt} {σ : zSt} {x1 : Int32} (h : (zQ [26] [(0, 0, 0), (0, 39, 49), (3, 87, 88), (3, 169, 170)] [] []) σ0 σ) : zpc (fX12_chip σ x1) (fun r => (zQ [26] [(0, 0, 0), (0, 39, 49), (3, 87, 88), (3, 169, 170)] [] []) σ0 (r.1)) := by
  unfold fX12_chip
  exact zpc_bi (fN_fX12_within h) (fun σ13 v14 hσ13 => zpc_if (fun _ => zpc_bi (fN_fX12_within hσ13) (fun σ15 v16 hσ15 => zpc_if (fun _ => fN_fX12_chip_32 hσ15) (fun _ => fN_fX12_chip_31 hσ15))) (fun _ => fN_fX12_chip_31 hσ13))
theorem fN_fX12_trace_50 {σ0 : zSt} {σ : zSt} {s0 : Int32} (h : (zQ [26] [(0, 0, 0), (0, 39, 49), (3, 87, 88), (3, 169, 170)] [] []) σ0 σ) : zpc (fX12_trace_50 σ s0) (fun r => (zQ [26] [(0, 0, 0), (0, 39, 49), (3, 87, 88), (3, 169, 170)] [] []) σ0 (r.1)) := by
  unfold fX12_trace_50
  exact zpc_some h
theorem fN_fX12_trace_27 {σ0 : zSt} {σ : zSt} (h : (zQ [26] [(0, 0, 0), (0, 39, 49), (3, 87, 88), (3, 169, 170)] [] []) σ0 σ) : zpc (fX12_trace_27 σ) (fun r => (zQ [26] [(0, 0, 0), (0, 39, 49), (3, 87, 88), (3, 169, 170)] [] []) σ0 (r.1)) := by
  unfold fX12_trace_27
  exact fN_fX12_trace_50 h
theorem fN_fX12_trace {σ0 : zSt} {σ : zSt} {x1 : Int32} (h : (zQ [26] [(0, 0, 0), (0, 39, 49), (3, 87, 88), (3, 169, 170)] [] []) σ0 σ) : zpc (fX12_trace σ x1) (fun r => (zQ [26] [(0, 0, 0), (0, 39, 49), (3, 87, 88), (3, 169, 170)] [] []) σ0 (r.1)) := by
  unfold fX12_trace
  exact zpc_bs (zQ.wi h rfl) (fun σ1 hσ1 => zpc_bi (fN_fX12_within hσ1) (fun σ2 v3 hσ2 => zpc_if (fun _ => fN_fX12_trace_27 hσ2) (fun _ => zpc_if (fun _ => zpc_ck (zpc_ck (fN_fX12_trace_50 hσ2))) (fun _ => fN_fX12_trace_27 hσ2))))
theorem fN_fX12_look_116 {σ0 : zSt} {σ : zSt} {x1 : Int32} (h : (zQ [26] [(0, 0, 0), (0, 39, 49), (3, 87, 88), (3, 169, 170)] [] []) σ0 σ) : zpc (fX12_look_116 σ x1) (fun r => (zQ [26] [(0, 0, 0), (0, 39, 49), (3, 87, 88), (3, 169, 170)] [] []) σ0 (r.1)) := by
  unfold fX12_look_116
  exact zpc_ck (zpc_some h)
theorem fN_fX12_look_169 {σ0 : zSt} {σ : zSt} {x1 : Int32} (h : (zQ [26] [(0, 0, 0), (0, 39, 49), (3, 87, 88), (3, 169, 170)] [] []) σ0 σ) : zpc (fX12_look_169 σ x1) (fun r => (zQ [26] [(0, 0, 0), (0, 39, 49), (3, 87, 88), (3, 169, 170)] [] []) σ0 (r.1)) := by
  unfold fX12_look_169
  exact zpc_ck (zpc_some h)
theorem fN_fX12_look_222 {σ0 : zSt} {σ : zSt} {s0 : Int64} (h : (zQ [26] [(0, 0, 0), (0, 39, 49), (3, 87, 88), (3, 169, 170)] [] []) σ0 σ) : zpc (fX12_look_222 σ s0) (fun r => (zQ [26] [(0, 0, 0), (0, 39, 49), (3, 87, 88), (3, 169, 170)] [] []) σ0 (r.1)) := by
  unfold fX12_look_222
  exact zpc_some h
theorem fN_fX12_look_18 {σ0 : zSt} {σ : zSt} {x1 : Int32} {s0 : Int32} (h : (zQ [26] [(0, 0, 0), (0, 39, 49), (3, 87, 88), (3, 169, 170)] [] []) σ0 σ) : zpc (fX12_look_18 σ x1 s0) (fun r => (zQ [26] [(0, 0, 0), (0, 39, 49), (3, 87, 88), (3, 169, 170)] [] []) σ0 (r.1)) := by
  unfold fX12_look_18
  exact zpc_bi (fN_fX12_fails h) (fun σ1 v2 hσ1 => zpc_if (fun _ => zpc_if (fun _ => fN_fX12_look_116 hσ1) (fun _ => zpc_if (fun _ => fN_fX12_look_116 hσ1) (fun _ => zpc_if (fun _ => fN_fX12_look_116 hσ1) (fun _ => zpc_if (fun _ => zpc_ck (zpc_some hσ1)) (fun _ => zpc_if (fun _ => zpc_ck (zpc_some hσ1)) (fun _ => zpc_if (fun _ => zpc_some hσ1) (fun _ => zpc_if (fun _ => zpc_ck (zpc_some hσ1)) (fun _ => zpc_if (fun _ => zpc_some hσ1) (fun _ => zpc_if (fun _ => zpc_ck (zpc_some hσ1)) (fun _ => zpc_if (fun _ => fN_fX12_look_169 hσ1) (fun _ => zpc_if (fun _ => fN_fX12_look_169 hσ1) (fun _ => zpc_if (fun _ => fN_fX12_look_169 hσ1) (fun _ => zpc_if (fun _ => zpc_ck (zpc_some hσ1)) (fun _ => zpc_if (fun _ => zpc_ck (zpc_some hσ1)) (fun _ => zpc_if (fun _ => zpc_ck (zpc_some hσ1)) (fun _ => zpc_if (fun _ => zpc_if (fun _ => fN_fX12_look_222 hσ1) (fun _ => fN_fX12_look_222 hσ1)) (fun _ => zpc_if (fun _ => zpc_ck (zpc_some hσ1)) (fun _ => zpc_if (fun _ => zpc_ck (zpc_some hσ1)) (fun _ => zpc_some hσ1))))))))))))))))))) (fun _ => zpc_some hσ1))
theorem fN_fX12_look {σ0 : zSt} {σ : zSt} {x1 : Int32} (h : (zQ [26] [(0, 0, 0), (0, 39, 49), (3, 87, 88), (3, 169, 170)] [] []) σ0 σ) : zpc (fX12_look σ x1) (fun r => (zQ [26] [(0, 0, 0), (0, 39, 49), (3, 87, 88), (3, 169, 170)] [] []) σ0 (r.1)) := by
  unfold fX12_look
  exact zpc_bi (fN_fX12_within h) (fun σ3 v4 hσ3 => zpc_if (fun _ => fN_fX12_look_18 hσ3) (fun _ => fN_fX12_look_18 hσ3))
theorem fN_fX12_mix_17 {σ0 : zSt} {σ : zSt} {s0 : Int32} (h : (zQ [26] [(0, 0, 0), (0, 39, 49), (3, 87, 88), (3, 169, 170)] [] []) σ0 σ) : zpc (fX12_mix_17 σ s0) (fun r => (zQ [26] [(0, 0, 0), (0, 39, 49), (3, 87, 88), (3, 169, 170)] [] []) σ0 (r.1)) := by
  unfold fX12_mix_17
  exact zpc_bi (fN_fX12_fails h) (fun σ1 v2 hσ1 => zpc_if (fun _ => zpc_ck (zpc_ck (zpc_bv (fun v3 _ => zpc_ck (zpc_ck (zpc_ck (zpc_bs (zQ.wi hσ1 rfl) (fun σ4 hσ4 => zpc_ck (zpc_ck (zpc_bs (zQ.wi hσ4 rfl) (fun σ5 hσ5 => zpc_some hσ5))))))))))) (fun _ => zpc_some hσ1))
theorem fN_fX12_mix {σ0 : zSt} {σ : zSt} (h : (zQ [26] [(0, 0, 0), (0, 39, 49), (3, 87, 88), (3, 169, 170)] [] []) σ0 σ) : zpc (fX12_mix σ) (fun r => (zQ [26] [(0, 0, 0), (0, 39, 49), (3, 87, 88), (3, 169, 170)] [] []) σ0 (r.1)) := by
  unfold fX12_mix
  exact zpc_ck (zpc_if (fun _ => fN_fX12_mix_17 h) (fun _ => fN_fX12_mix_17 h))
theorem fN_fX12_wave_41 {σ0 : zSt} {σ : zSt} {x1 : Int32} {s0 : Int32} (h : (zQ [26] [(0, 0, 0), (0, 39, 49), (3, 87, 88), (3, 169, 170)] [] []) σ0 σ) : zpc (fX12_wave_41 σ x1 s0) (fun r => (zQ [26] [(0, 0, 0), (0, 39, 49), (3, 87, 88), (3, 169, 170)] [] []) σ0 (r.1)) := by
  unfold fX12_wave_41
  exact zpc_bi (fN_fX12_fails h) (fun σ1 v2 hσ1 => zpc_if (fun _ => zpc_if (fun _ => zpc_if (fun _ => zpc_ck (zpc_some hσ1)) (fun _ => zpc_if (fun _ => zpc_ck (zpc_some hσ1)) (fun _ => zpc_if (fun _ => zpc_ck (zpc_ck (zpc_some hσ1))) (fun _ => zpc_if (fun _ => zpc_ck (zpc_some hσ1)) (fun _ => zpc_ck (zpc_ck (zpc_ck (zpc_some hσ1)))))))) (fun _ => zpc_bi (fN_fX12_wreg hσ1) (fun σ3 v4 hσ3 => zpc_some hσ3))) (fun _ => zpc_some hσ1))
theorem fN_fX12_wave_40 {σ0 : zSt} {σ : zSt} {x1 : Int32} (h : (zQ [26] [(0, 0, 0), (0, 39, 49), (3, 87, 88), (3, 169, 170)] [] []) σ0 σ) : zpc (fX12_wave_40 σ x1) (fun r => (zQ [26] [(0, 0, 0), (0, 39, 49), (3, 87, 88), (3, 169, 170)] [] []) σ0 (r.1)) := by
  unfold fX12_wave_40
  exact fN_fX12_wave_41 h
theorem fN_fX12_wave_36 {σ0 : zSt} {σ : zSt} {x1 : Int32} (h : (zQ [26] [(0, 0, 0), (0, 39, 49), (3, 87, 88), (3, 169, 170)] [] []) σ0 σ) : zpc (fX12_wave_36 σ x1) (fun r => (zQ [26] [(0, 0, 0), (0, 39, 49), (3, 87, 88), (3, 169, 170)] [] []) σ0 (r.1)) := by
  unfold fX12_wave_36
  exact fN_fX12_wave_41 h
theorem fN_fX12_wave {σ0 : zSt} {σ : zSt} {x1 : Int32} (h : (zQ [26] [(0, 0, 0), (0, 39, 49), (3, 87, 88), (3, 169, 170)] [] []) σ0 σ) : zpc (fX12_wave σ x1) (fun r => (zQ [26] [(0, 0, 0), (0, 39, 49), (3, 87, 88), (3, 169, 170)] [] []) σ0 (r.1)) := by
  unfold fX12_wave
  exact zpc_bi (fN_fX12_within h) (fun σ5 v6 hσ5 => zpc_if (fun _ => zpc_bi (fN_fX12_within hσ5) (fun σ7 v8 hσ7 => zpc_if (fun _ => fN_fX12_wave_36 hσ7) (fun _ => zpc_ck (zpc_if (fun _ => fN_fX12_wave_40 hσ7) (fun _ => fN_fX12_wave_36 hσ7))))) (fun _ => fN_fX12_wave_40 hσ5))
theorem fN_fX12_say_2_body {σ0 : zSt} {k2 : zSt → Nat → Int32 → Option (zSt)} (hk2 : ∀ (y0 : zSt) (y1 : Nat) (y2 : Int32), (zQ [26] [(0, 0, 0), (0, 39, 49), (3, 87, 88), (3, 169, 170)] [] []) σ0 y0 → zpc (k2 y0 y1 y2) (fun r => (zQ [26] [(0, 0, 0), (0, 39, 49), (3, 87, 88), (3, 169, 170)] [] []) σ0 (r))) {σ : zSt} {n1 : Nat} {x2 : Int32} (h : (zQ [26] [(0, 0, 0), (0, 39, 49), (3, 87, 88), (3, 169, 170)] [] []) σ0 σ) : zpc (fX12_say_2_body k2 σ n1 x2) (fun r => (zQ [26] [(0, 0, 0), (0, 39, 49), (3, 87, 88), (3, 169, 170)] [] []) σ0 (r)) := by
  unfold fX12_say_2_body
  exact zpc_ck (zpc_if (fun _ => zpc_some h) (fun _ => zpc_ck (zpc_ck (zpc_ck (zpc_bs (zQ.wi h rfl) (fun σ1 hσ1 => zpc_bs (zQ.wi hσ1 rfl) (fun σ2 hσ2 => zpc_bv (fun v3 _ => hk2 _ _ _ hσ2))))))))
theorem fN_fX12_say_2 {σ0 : zSt} : ∀ (n : Nat) (y0 : zSt) (y1 : Nat) (y2 : Int32), (zQ [26] [(0, 0, 0), (0, 39, 49), (3, 87, 88), (3, 169, 170)] [] []) σ0 y0 → zpc (fX12_say_2 n y0 y1 y2) (fun r => (zQ [26] [(0, 0, 0), (0, 39, 49), (3, 87, 88), (3, 169, 170)] [] []) σ0 (r)) := by
  intro n
  induction n with
  | zero => intro y0 y1 y2 h; exact zpc_none
  | succ n ih => intro y0 y1 y2 h; exact fN_fX12_say_2_body ih h
theorem fN_fX12_say {σ0 : zSt} {σ : zSt} {n1 : Nat} (h : (zQ [26] [(0, 0, 0), (0, 39, 49), (3, 87, 88), (3, 169, 170)] [] []) σ0 σ) : zpc (fX12_say σ n1) (fun r => (zQ [26] [(0, 0, 0), (0, 39, 49), (3, 87, 88), (3, 169, 170)] [] []) σ0 (r)) := by
  unfold fX12_say
  exact fN_fX12_say_2 _ _ _ _ h
theorem fN_fX12_hex_49 {σ0 : zSt} {k4 : zSt → Int32 → Int32 → Option (zSt)} (hk4 : ∀ (y0 : zSt) (y1 : Int32) (y2 : Int32), (zQ [26] [(0, 0, 0), (0, 39, 49), (3, 87, 88), (3, 169, 170)] [] []) σ0 y0 → zpc (k4 y0 y1 y2) (fun r => (zQ [26] [(0, 0, 0), (0, 39, 49), (3, 87, 88), (3, 169, 170)] [] []) σ0 (r))) {σ : zSt} {x1 : Int32} {x3 : Int32} {s0 : Int32} {s1 : Int32} (h : (zQ [26] [(0, 0, 0), (0, 39, 49), (3, 87, 88), (3, 169, 170)] [] []) σ0 σ) : zpc (fX12_hex_49 k4 σ x1 x3 s0 s1) (fun r => (zQ [26] [(0, 0, 0), (0, 39, 49), (3, 87, 88), (3, 169, 170)] [] []) σ0 (r)) := by
  unfold fX12_hex_49
  exact zpc_ck (zpc_bs (zQ.wi h rfl) (fun σ1 hσ1 => zpc_bs (zQ.wi hσ1 rfl) (fun σ2 hσ2 => zpc_bv (fun v3 _ => hk4 _ _ _ hσ2))))
theorem fN_fX12_hex_4_body {σ0 : zSt} {k4 : zSt → Int32 → Int32 → Option (zSt)} (hk4 : ∀ (y0 : zSt) (y1 : Int32) (y2 : Int32), (zQ [26] [(0, 0, 0), (0, 39, 49), (3, 87, 88), (3, 169, 170)] [] []) σ0 y0 → zpc (k4 y0 y1 y2) (fun r => (zQ [26] [(0, 0, 0), (0, 39, 49), (3, 87, 88), (3, 169, 170)] [] []) σ0 (r))) {σ : zSt} {x1 : Int32} {x3 : Int32} (h : (zQ [26] [(0, 0, 0), (0, 39, 49), (3, 87, 88), (3, 169, 170)] [] []) σ0 σ) : zpc (fX12_hex_4_body k4 σ x1 x3) (fun r => (zQ [26] [(0, 0, 0), (0, 39, 49), (3, 87, 88), (3, 169, 170)] [] []) σ0 (r)) := by
  unfold fX12_hex_4_body
  exact zpc_if (fun _ => zpc_some h) (fun _ => zpc_bv (fun v4 _ => zpc_if (fun _ => fN_fX12_hex_49 hk4 h) (fun _ => fN_fX12_hex_49 hk4 h)))
theorem fN_fX12_hex_4 {σ0 : zSt} : ∀ (n : Nat) (y0 : zSt) (y1 : Int32) (y2 : Int32), (zQ [26] [(0, 0, 0), (0, 39, 49), (3, 87, 88), (3, 169, 170)] [] []) σ0 y0 → zpc (fX12_hex_4 n y0 y1 y2) (fun r => (zQ [26] [(0, 0, 0), (0, 39, 49), (3, 87, 88), (3, 169, 170)] [] []) σ0 (r)) := by
  intro n
  induction n with
  | zero => intro y0 y1 y2 h; exact zpc_none
  | succ n ih => intro y0 y1 y2 h; exact fN_fX12_hex_4_body ih h
theorem fN_fX12_hex {σ0 : zSt} {σ : zSt} {x1 : Int32} {x2 : Int32} (h : (zQ [26] [(0, 0, 0), (0, 39, 49), (3, 87, 88), (3, 169, 170)] [] []) σ0 σ) : zpc (fX12_hex σ x1 x2) (fun r => (zQ [26] [(0, 0, 0), (0, 39, 49), (3, 87, 88), (3, 169, 170)] [] []) σ0 (r)) := by
  unfold fX12_hex
  exact zpc_bv (fun v5 _ => fN_fX12_hex_4 _ _ _ _ h)
theorem fN_fX12_taken {σ0 : zSt} {σ : zSt} (h : (zQ [26] [(0, 0, 0), (0, 39, 49), (3, 87, 88), (3, 169, 170)] [] []) σ0 σ) : zpc (fX12_taken σ) (fun r => (zQ [26] [(0, 0, 0), (0, 39, 49), (3, 87, 88), (3, 169, 170)] [] []) σ0 (r.1)) := by
  unfold fX12_taken
  exact zpc_bi (fN_fX12_read h) (fun σ1 v2 hσ1 => zpc_bs (zQ.wi hσ1 rfl) (fun σ3 hσ3 => zpc_some hσ3))
theorem fN_fX12_takenWord {σ0 : zSt} {σ : zSt} (h : (zQ [26] [(0, 0, 0), (0, 39, 49), (3, 87, 88), (3, 169, 170)] [] []) σ0 σ) : zpc (fX12_takenWord σ) (fun r => (zQ [26] [(0, 0, 0), (0, 39, 49), (3, 87, 88), (3, 169, 170)] [] []) σ0 (r.1)) := by
  unfold fX12_takenWord
  exact zpc_bi (fN_fX12_taken h) (fun σ1 v2 hσ1 => zpc_bi (fN_fX12_taken hσ1) (fun σ3 v4 hσ3 => zpc_some hσ3))
theorem fN_fX12_sayHl_31 {σ0 : zSt} {σ : zSt} {s0 : Nat} (h : (zQ [26] [(0, 0, 0), (0, 39, 49), (3, 87, 88), (3, 169, 170)] [] []) σ0 σ) : zpc (fX12_sayHl_31 σ s0) (fun r => (zQ [26] [(0, 0, 0), (0, 39, 49), (3, 87, 88), (3, 169, 170)] [] []) σ0 (r)) := by
  unfold fX12_sayHl_31
  exact zpc_bu (fN_fX12_say h) (fun σ1 hσ1 => zpc_some hσ1)
theorem fN_fX12_sayHl {σ0 : zSt} {σ : zSt} (h : (zQ [26] [(0, 0, 0), (0, 39, 49), (3, 87, 88), (3, 169, 170)] [] []) σ0 σ) : zpc (fX12_sayHl σ) (fun r => (zQ [26] [(0, 0, 0), (0, 39, 49), (3, 87, 88), (3, 169, 170)] [] []) σ0 (r)) := by
  unfold fX12_sayHl
  exact zpc_if (fun _ => fN_fX12_sayHl_31 h) (fun _ => zpc_if (fun _ => fN_fX12_sayHl_31 h) (fun _ => fN_fX12_sayHl_31 h))
theorem fN_fX12_sayPlace_76 {σ0 : zSt} {σ : zSt} {s0 : Int32} (h : (zQ [26] [(0, 0, 0), (0, 39, 49), (3, 87, 88), (3, 169, 170)] [] []) σ0 σ) : zpc (fX12_sayPlace_76 σ s0) (fun r => (zQ [26] [(0, 0, 0), (0, 39, 49), (3, 87, 88), (3, 169, 170)] [] []) σ0 (r)) := by
  unfold fX12_sayPlace_76
  exact zpc_bu (fN_fX12_hex h) (fun σ1 hσ1 => zpc_bu (fN_fX12_say hσ1) (fun σ2 hσ2 => zpc_some hσ2))
theorem fN_fX12_sayPlace_53 {σ0 : zSt} {σ : zSt} {s0 : Nat} (h : (zQ [26] [(0, 0, 0), (0, 39, 49), (3, 87, 88), (3, 169, 170)] [] []) σ0 σ) : zpc (fX12_sayPlace_53 σ s0) (fun r => (zQ [26] [(0, 0, 0), (0, 39, 49), (3, 87, 88), (3, 169, 170)] [] []) σ0 (r)) := by
  unfold fX12_sayPlace_53
  exact zpc_bu (fN_fX12_say h) (fun σ3 hσ3 => zpc_if (fun _ => fN_fX12_sayPlace_76 hσ3) (fun _ => fN_fX12_sayPlace_76 hσ3))
theorem fN_fX12_sayPlace_33 {σ0 : zSt} {σ : zSt} {s0 : Nat} (h : (zQ [26] [(0, 0, 0), (0, 39, 49), (3, 87, 88), (3, 169, 170)] [] []) σ0 σ) : zpc (fX12_sayPlace_33 σ s0) (fun r => (zQ [26] [(0, 0, 0), (0, 39, 49), (3, 87, 88), (3, 169, 170)] [] []) σ0 (r)) := by
  unfold fX12_sayPlace_33
  exact zpc_bu (fN_fX12_say h) (fun σ4 hσ4 => zpc_if (fun _ => fN_fX12_sayPlace_53 hσ4) (fun _ => fN_fX12_sayPlace_53 hσ4))
theorem fN_fX12_sayPlace {σ0 : zSt} {σ : zSt} (h : (zQ [26] [(0, 0, 0), (0, 39, 49), (3, 87, 88), (3, 169, 170)] [] []) σ0 σ) : zpc (fX12_sayPlace σ) (fun r => (zQ [26] [(0, 0, 0), (0, 39, 49), (3, 87, 88), (3, 169, 170)] [] []) σ0 (r)) := by
  unfold fX12_sayPlace
  exact zpc_if (fun _ => zpc_bu (fN_fX12_say h) (fun σ5 hσ5 => zpc_some hσ5)) (fun _ => zpc_if (fun _ => fN_fX12_sayPlace_33 h) (fun _ => fN_fX12_sayPlace_33 h))
theorem fN_fX12_sayR_108 {σ0 : zSt} {σ : zSt} {s0 : Nat} (h : (zQ [26] [(0, 0, 0), (0, 39, 49), (3, 87, 88), (3, 169, 170)] [] []) σ0 σ) : zpc (fX12_sayR_108 σ s0) (fun r => (zQ [26] [(0, 0, 0), (0, 39, 49), (3, 87, 88), (3, 169, 170)] [] []) σ0 (r)) := by
  unfold fX12_sayR_108
  exact zpc_bu (fN_fX12_say h) (fun σ1 hσ1 => zpc_some hσ1)
theorem fN_fX12_sayR_39 {σ0 : zSt} {σ : zSt} {x1 : Int32} (h : (zQ [26] [(0, 0, 0), (0, 39, 49), (3, 87, 88), (3, 169, 170)] [] []) σ0 σ) : zpc (fX12_sayR_39 σ x1) (fun r => (zQ [26] [(0, 0, 0), (0, 39, 49), (3, 87, 88), (3, 169, 170)] [] []) σ0 (r)) := by
  unfold fX12_sayR_39
  exact zpc_if (fun _ => fN_fX12_sayR_108 h) (fun _ => zpc_if (fun _ => fN_fX12_sayR_108 h) (fun _ => zpc_if (fun _ => fN_fX12_sayR_108 h) (fun _ => zpc_if (fun _ => fN_fX12_sayR_108 h) (fun _ => zpc_if (fun _ => fN_fX12_sayR_108 h) (fun _ => zpc_if (fun _ => fN_fX12_sayR_108 h) (fun _ => fN_fX12_sayR_108 h))))))
theorem fN_fX12_sayR_35 {σ0 : zSt} {σ : zSt} {x1 : Int32} (h : (zQ [26] [(0, 0, 0), (0, 39, 49), (3, 87, 88), (3, 169, 170)] [] []) σ0 σ) : zpc (fX12_sayR_35 σ x1) (fun r => (zQ [26] [(0, 0, 0), (0, 39, 49), (3, 87, 88), (3, 169, 170)] [] []) σ0 (r)) := by
  unfold fX12_sayR_35
  exact zpc_bu (fN_fX12_sayHl h) (fun σ2 hσ2 => fN_fX12_sayR_39 hσ2)
theorem fN_fX12_sayR {σ0 : zSt} {σ : zSt} {x1 : Int32} (h : (zQ [26] [(0, 0, 0), (0, 39, 49), (3, 87, 88), (3, 169, 170)] [] []) σ0 σ) : zpc (fX12_sayR σ x1) (fun r => (zQ [26] [(0, 0, 0), (0, 39, 49), (3, 87, 88), (3, 169, 170)] [] []) σ0 (r)) := by
  unfold fX12_sayR
  exact zpc_if (fun _ => zpc_bu (fN_fX12_sayPlace h) (fun σ3 hσ3 => zpc_some hσ3)) (fun _ => zpc_if (fun _ => fN_fX12_sayR_39 h) (fun _ => zpc_if (fun _ => zpc_if (fun _ => fN_fX12_sayR_35 h) (fun _ => zpc_if (fun _ => fN_fX12_sayR_35 h) (fun _ => fN_fX12_sayR_39 h))) (fun _ => fN_fX12_sayR_39 h)))
theorem fN_fX12_sayRp_50 {σ0 : zSt} {σ : zSt} (h : (zQ [26] [(0, 0, 0), (0, 39, 49), (3, 87, 88), (3, 169, 170)] [] []) σ0 σ) : zpc (fX12_sayRp_50 σ) (fun r => (zQ [26] [(0, 0, 0), (0, 39, 49), (3, 87, 88), (3, 169, 170)] [] []) σ0 (r)) := by
  unfold fX12_sayRp_50
  exact zpc_some h
theorem fN_fX12_sayRp_47 {σ0 : zSt} {σ : zSt} {s0 : Nat} (h : (zQ [26] [(0, 0, 0), (0, 39, 49), (3, 87, 88), (3, 169, 170)] [] []) σ0 σ) : zpc (fX12_sayRp_47 σ s0) (fun r => (zQ [26] [(0, 0, 0), (0, 39, 49), (3, 87, 88), (3, 169, 170)] [] []) σ0 (r)) := by
  unfold fX12_sayRp_47
  exact zpc_bu (fN_fX12_say h) (fun σ1 hσ1 => fN_fX12_sayRp_50 hσ1)
theorem fN_fX12_sayRp {σ0 : zSt} {σ : zSt} {x1 : Int32} {x2 : Int32} (h : (zQ [26] [(0, 0, 0), (0, 39, 49), (3, 87, 88), (3, 169, 170)] [] []) σ0 σ) : zpc (fX12_sayRp σ x1 x2) (fun r => (zQ [26] [(0, 0, 0), (0, 39, 49), (3, 87, 88), (3, 169, 170)] [] []) σ0 (r)) := by
  unfold fX12_sayRp
  exact zpc_if (fun _ => zpc_bu (fN_fX12_sayHl h) (fun σ2 hσ2 => fN_fX12_sayRp_50 hσ2)) (fun _ => zpc_if (fun _ => fN_fX12_sayRp_47 h) (fun _ => zpc_if (fun _ => fN_fX12_sayRp_47 h) (fun _ => zpc_if (fun _ => fN_fX12_sayRp_47 h) (fun _ => fN_fX12_sayRp_47 h))))
theorem fN_fX12_sayCc_81 {σ0 : zSt} {σ : zSt} {s0 : Nat} (h : (zQ [26] [(0, 0, 0), (0, 39, 49), (3, 87, 88), (3, 169, 170)] [] []) σ0 σ) : zpc (fX12_sayCc_81 σ s0) (fun r => (zQ [26] [(0, 0, 0), (0, 39, 49), (3, 87, 88), (3, 169, 170)] [] []) σ0 (r)) := by
  unfold fX12_sayCc_81
  exact zpc_bu (fN_fX12_say h) (fun σ1 hσ1 => zpc_some hσ1)
theorem fN_fX12_sayCc {σ0 : zSt} {σ : zSt} {x1 : Int32} (h : (zQ [26] [(0, 0, 0), (0, 39, 49), (3, 87, 88), (3, 169, 170)] [] []) σ0 σ) : zpc (fX12_sayCc σ x1) (fun r => (zQ [26] [(0, 0, 0), (0, 39, 49), (3, 87, 88), (3, 169, 170)] [] []) σ0 (r)) := by
  unfold fX12_sayCc
  exact zpc_if (fun _ => fN_fX12_sayCc_81 h) (fun _ => zpc_if (fun _ => fN_fX12_sayCc_81 h) (fun _ => zpc_if (fun _ => fN_fX12_sayCc_81 h) (fun _ => zpc_if (fun _ => fN_fX12_sayCc_81 h) (fun _ => zpc_if (fun _ => fN_fX12_sayCc_81 h) (fun _ => zpc_if (fun _ => fN_fX12_sayCc_81 h) (fun _ => zpc_if (fun _ => fN_fX12_sayCc_81 h) (fun _ => fN_fX12_sayCc_81 h)))))))
theorem fN_fX12_sayPlaced {σ0 : zSt} {σ : zSt} {x1 : Int32} (h : (zQ [26] [(0, 0, 0), (0, 39, 49), (3, 87, 88), (3, 169, 170)] [] []) σ0 σ) : zpc (fX12_sayPlaced σ x1) (fun r => (zQ [26] [(0, 0, 0), (0, 39, 49), (3, 87, 88), (3, 169, 170)] [] []) σ0 (r)) := by
  unfold fX12_sayPlaced
  exact zpc_bu (fN_fX12_say h) (fun σ1 hσ1 => zpc_bu (fN_fX12_hex hσ1) (fun σ2 hσ2 => zpc_bu (fN_fX12_say hσ2) (fun σ3 hσ3 => zpc_some hσ3)))
theorem fN_fX12_sayJump {σ0 : zSt} {σ : zSt} (h : (zQ [26] [(0, 0, 0), (0, 39, 49), (3, 87, 88), (3, 169, 170)] [] []) σ0 σ) : zpc (fX12_sayJump σ) (fun r => (zQ [26] [(0, 0, 0), (0, 39, 49), (3, 87, 88), (3, 169, 170)] [] []) σ0 (r)) := by
  unfold fX12_sayJump
  exact zpc_bi (fN_fX12_taken h) (fun σ1 v2 hσ1 => zpc_bi (fN_fX12_signed hσ1) (fun σ3 v4 hσ3 => zpc_bu (fN_fX12_hex hσ3) (fun σ5 hσ5 => zpc_some hσ5)))
theorem fN_fX12_sayDo_81 {σ0 : zSt} {σ : zSt} {s0 : Nat} (h : (zQ [26] [(0, 0, 0), (0, 39, 49), (3, 87, 88), (3, 169, 170)] [] []) σ0 σ) : zpc (fX12_sayDo_81 σ s0) (fun r => (zQ [26] [(0, 0, 0), (0, 39, 49), (3, 87, 88), (3, 169, 170)] [] []) σ0 (r)) := by
  unfold fX12_sayDo_81
  exact zpc_bu (fN_fX12_say h) (fun σ1 hσ1 => zpc_some hσ1)
theorem fN_fX12_sayDo {σ0 : zSt} {σ : zSt} {x1 : Int32} (h : (zQ [26] [(0, 0, 0), (0, 39, 49), (3, 87, 88), (3, 169, 170)] [] []) σ0 σ) : zpc (fX12_sayDo σ x1) (fun r => (zQ [26] [(0, 0, 0), (0, 39, 49), (3, 87, 88), (3, 169, 170)] [] []) σ0 (r)) := by
  unfold fX12_sayDo
  exact zpc_if (fun _ => fN_fX12_sayDo_81 h) (fun _ => zpc_if (fun _ => fN_fX12_sayDo_81 h) (fun _ => zpc_if (fun _ => fN_fX12_sayDo_81 h) (fun _ => zpc_if (fun _ => fN_fX12_sayDo_81 h) (fun _ => zpc_if (fun _ => fN_fX12_sayDo_81 h) (fun _ => zpc_if (fun _ => fN_fX12_sayDo_81 h) (fun _ => zpc_if (fun _ => fN_fX12_sayDo_81 h) (fun _ => fN_fX12_sayDo_81 h)))))))
theorem fN_fX12_sayTurn_146 {σ0 : zSt} {σ : zSt} {x1 : Int32} (h : (zQ [26] [(0, 0, 0), (0, 39, 49), (3, 87, 88), (3, 169, 170)] [] []) σ0 σ) : zpc (fX12_sayTurn_146 σ x1) (fun r => (zQ [26] [(0, 0, 0), (0, 39, 49), (3, 87, 88), (3, 169, 170)] [] []) σ0 (r)) := by
  unfold fX12_sayTurn_146
  exact zpc_bu (fN_fX12_sayR h) (fun σ1 hσ1 => zpc_some hσ1)
theorem fN_fX12_sayTurn_94 {σ0 : zSt} {σ : zSt} {x1 : Int32} {s0 : Nat} (h : (zQ [26] [(0, 0, 0), (0, 39, 49), (3, 87, 88), (3, 169, 170)] [] []) σ0 σ) : zpc (fX12_sayTurn_94 σ x1 s0) (fun r => (zQ [26] [(0, 0, 0), (0, 39, 49), (3, 87, 88), (3, 169, 170)] [] []) σ0 (r)) := by
  unfold fX12_sayTurn_94
  exact zpc_bu (fN_fX12_say h) (fun σ2 hσ2 => fN_fX12_sayTurn_146 hσ2)
theorem fN_fX12_sayTurn_130 {σ0 : zSt} {σ : zSt} {x1 : Int32} {x2 : Int32} {s0 : Nat} (h : (zQ [26] [(0, 0, 0), (0, 39, 49), (3, 87, 88), (3, 169, 170)] [] []) σ0 σ) : zpc (fX12_sayTurn_130 σ x1 x2 s0) (fun r => (zQ [26] [(0, 0, 0), (0, 39, 49), (3, 87, 88), (3, 169, 170)] [] []) σ0 (r)) := by
  unfold fX12_sayTurn_130
  exact zpc_bu (fN_fX12_say h) (fun σ3 hσ3 => zpc_bu (fN_fX12_hex hσ3) (fun σ4 hσ4 => zpc_bu (fN_fX12_say hσ4) (fun σ5 hσ5 => fN_fX12_sayTurn_146 hσ5)))
theorem fN_fX12_sayTurn {σ0 : zSt} {σ : zSt} {x1 : Int32} (h : (zQ [26] [(0, 0, 0), (0, 39, 49), (3, 87, 88), (3, 169, 170)] [] []) σ0 σ) : zpc (fX12_sayTurn σ x1) (fun r => (zQ [26] [(0, 0, 0), (0, 39, 49), (3, 87, 88), (3, 169, 170)] [] []) σ0 (r)) := by
  unfold fX12_sayTurn
  exact zpc_bv (fun v6 _ => zpc_if (fun _ => zpc_if (fun _ => zpc_if (fun _ => fN_fX12_sayTurn_130 h) (fun _ => fN_fX12_sayTurn_130 h)) (fun _ => fN_fX12_sayTurn_130 h)) (fun _ => zpc_if (fun _ => fN_fX12_sayTurn_94 h) (fun _ => zpc_if (fun _ => fN_fX12_sayTurn_94 h) (fun _ => zpc_if (fun _ => fN_fX12_sayTurn_94 h) (fun _ => zpc_if (fun _ => fN_fX12_sayTurn_94 h) (fun _ => zpc_if (fun _ => fN_fX12_sayTurn_94 h) (fun _ => zpc_if (fun _ => fN_fX12_sayTurn_94 h) (fun _ => zpc_if (fun _ => fN_fX12_sayTurn_94 h) (fun _ => fN_fX12_sayTurn_94 h)))))))))
theorem fN_fX12_sayZero_301 {σ0 : zSt} {σ : zSt} (h : (zQ [26] [(0, 0, 0), (0, 39, 49), (3, 87, 88), (3, 169, 170)] [] []) σ0 σ) : zpc (fX12_sayZero_301 σ) (fun r => (zQ [26] [(0, 0, 0), (0, 39, 49), (3, 87, 88), (3, 169, 170)] [] []) σ0 (r)) := by
  unfold fX12_sayZero_301
  exact zpc_some h
theorem fN_fX12_sayZero_80 {σ0 : zSt} {σ : zSt} {x1 : Int32} (h : (zQ [26] [(0, 0, 0), (0, 39, 49), (3, 87, 88), (3, 169, 170)] [] []) σ0 σ) : zpc (fX12_sayZero_80 σ x1) (fun r => (zQ [26] [(0, 0, 0), (0, 39, 49), (3, 87, 88), (3, 169, 170)] [] []) σ0 (r)) := by
  unfold fX12_sayZero_80
  exact zpc_if (fun _ => fN_fX12_sayZero_301 h) (fun _ => zpc_bu (fN_fX12_sayJump h) (fun σ1 hσ1 => fN_fX12_sayZero_301 hσ1))
theorem fN_fX12_sayZero_58 {σ0 : zSt} {σ : zSt} {x1 : Int32} {s0 : Nat} (h : (zQ [26] [(0, 0, 0), (0, 39, 49), (3, 87, 88), (3, 169, 170)] [] []) σ0 σ) : zpc (fX12_sayZero_58 σ x1 s0) (fun r => (zQ [26] [(0, 0, 0), (0, 39, 49), (3, 87, 88), (3, 169, 170)] [] []) σ0 (r)) := by
  unfold fX12_sayZero_58
  exact zpc_bu (fN_fX12_say h) (fun σ2 hσ2 => zpc_if (fun _ => fN_fX12_sayZero_80 hσ2) (fun _ => zpc_bu (fN_fX12_sayCc hσ2) (fun σ3 hσ3 => zpc_bu (fN_fX12_say hσ3) (fun σ4 hσ4 => fN_fX12_sayZero_80 hσ4))))
theorem fN_fX12_sayZero_133 {σ0 : zSt} {σ : zSt} {x3 : Int32} {x4 : Int32} (h : (zQ [26] [(0, 0, 0), (0, 39, 49), (3, 87, 88), (3, 169, 170)] [] []) σ0 σ) : zpc (fX12_sayZero_133 σ x3 x4) (fun r => (zQ [26] [(0, 0, 0), (0, 39, 49), (3, 87, 88), (3, 169, 170)] [] []) σ0 (r)) := by
  unfold fX12_sayZero_133
  exact zpc_bu (fN_fX12_say h) (fun σ5 hσ5 => zpc_if (fun _ => zpc_bi (fN_fX12_takenWord hσ5) (fun σ6 v7 hσ6 => zpc_bu (fN_fX12_hex hσ6) (fun σ8 hσ8 => fN_fX12_sayZero_301 hσ8))) (fun _ => zpc_bu (fN_fX12_sayRp hσ5) (fun σ9 hσ9 => fN_fX12_sayZero_301 hσ9)))
theorem fN_fX12_sayZero_112 {σ0 : zSt} {σ : zSt} {x3 : Int32} {x4 : Int32} {s0 : Nat} (h : (zQ [26] [(0, 0, 0), (0, 39, 49), (3, 87, 88), (3, 169, 170)] [] []) σ0 σ) : zpc (fX12_sayZero_112 σ x3 x4 s0) (fun r => (zQ [26] [(0, 0, 0), (0, 39, 49), (3, 87, 88), (3, 169, 170)] [] []) σ0 (r)) := by
  unfold fX12_sayZero_112
  exact zpc_bu (fN_fX12_say h) (fun σ10 hσ10 => zpc_if (fun _ => zpc_bu (fN_fX12_sayRp hσ10) (fun σ11 hσ11 => fN_fX12_sayZero_133 hσ11)) (fun _ => zpc_bu (fN_fX12_sayHl hσ10) (fun σ12 hσ12 => fN_fX12_sayZero_133 hσ12)))
theorem fN_fX12_sayZero_186 {σ0 : zSt} {σ : zSt} {x3 : Int32} {s0 : Nat} (h : (zQ [26] [(0, 0, 0), (0, 39, 49), (3, 87, 88), (3, 169, 170)] [] []) σ0 σ) : zpc (fX12_sayZero_186 σ x3 s0) (fun r => (zQ [26] [(0, 0, 0), (0, 39, 49), (3, 87, 88), (3, 169, 170)] [] []) σ0 (r)) := by
  unfold fX12_sayZero_186
  exact zpc_bu (fN_fX12_say h) (fun σ13 hσ13 => zpc_bu (fN_fX12_sayRp hσ13) (fun σ14 hσ14 => fN_fX12_sayZero_301 hσ14))
theorem fN_fX12_sayZero_269 {σ0 : zSt} {σ : zSt} {x3 : Int32} {x4 : Int32} (h : (zQ [26] [(0, 0, 0), (0, 39, 49), (3, 87, 88), (3, 169, 170)] [] []) σ0 σ) : zpc (fX12_sayZero_269 σ x3 x4) (fun r => (zQ [26] [(0, 0, 0), (0, 39, 49), (3, 87, 88), (3, 169, 170)] [] []) σ0 (r)) := by
  unfold fX12_sayZero_269
  exact zpc_if (fun _ => zpc_bu (fN_fX12_say h) (fun σ15 hσ15 => zpc_if (fun _ => zpc_bu (fN_fX12_sayHl hσ15) (fun σ17 hσ17 => fN_fX12_sayZero_301 hσ17)) (fun _ => zpc_bu (fN_fX12_say hσ15) (fun σ16 hσ16 => fN_fX12_sayZero_301 hσ16)))) (fun _ => zpc_some h)
theorem fN_fX12_sayZero_255 {σ0 : zSt} {σ : zSt} {x3 : Int32} {x4 : Int32} {s0 : Nat} (h : (zQ [26] [(0, 0, 0), (0, 39, 49), (3, 87, 88), (3, 169, 170)] [] []) σ0 σ) : zpc (fX12_sayZero_255 σ x3 x4 s0) (fun r => (zQ [26] [(0, 0, 0), (0, 39, 49), (3, 87, 88), (3, 169, 170)] [] []) σ0 (r)) := by
  unfold fX12_sayZero_255
  exact zpc_bu (fN_fX12_say h) (fun σ18 hσ18 => fN_fX12_sayZero_269 hσ18)
theorem fN_fX12_sayZero_236 {σ0 : zSt} {σ : zSt} {x3 : Int32} {x4 : Int32} (h : (zQ [26] [(0, 0, 0), (0, 39, 49), (3, 87, 88), (3, 169, 170)] [] []) σ0 σ) : zpc (fX12_sayZero_236 σ x3 x4) (fun r => (zQ [26] [(0, 0, 0), (0, 39, 49), (3, 87, 88), (3, 169, 170)] [] []) σ0 (r)) := by
  unfold fX12_sayZero_236
  exact zpc_if (fun _ => zpc_bi (fN_fX12_takenWord h) (fun σ19 v20 hσ19 => zpc_bu (fN_fX12_sayPlaced hσ19) (fun σ21 hσ21 => fN_fX12_sayZero_269 hσ21))) (fun _ => zpc_if (fun _ => fN_fX12_sayZero_255 h) (fun _ => fN_fX12_sayZero_255 h))
theorem fN_fX12_sayZero_229 {σ0 : zSt} {σ : zSt} {x3 : Int32} {x4 : Int32} (h : (zQ [26] [(0, 0, 0), (0, 39, 49), (3, 87, 88), (3, 169, 170)] [] []) σ0 σ) : zpc (fX12_sayZero_229 σ x3 x4) (fun r => (zQ [26] [(0, 0, 0), (0, 39, 49), (3, 87, 88), (3, 169, 170)] [] []) σ0 (r)) := by
  unfold fX12_sayZero_229
  exact zpc_bu (fN_fX12_say h) (fun σ22 hσ22 => fN_fX12_sayZero_236 hσ22)
theorem fN_fX12_sayZero_16 {σ0 : zSt} {σ : zSt} {x1 : Int32} {x2 : Int32} {x3 : Int32} {s0 : Int32} (h : (zQ [26] [(0, 0, 0), (0, 39, 49), (3, 87, 88), (3, 169, 170)] [] []) σ0 σ) : zpc (fX12_sayZero_16 σ x1 x2 x3 s0) (fun r => (zQ [26] [(0, 0, 0), (0, 39, 49), (3, 87, 88), (3, 169, 170)] [] []) σ0 (r)) := by
  unfold fX12_sayZero_16
  exact zpc_if (fun _ => zpc_if (fun _ => fN_fX12_sayZero_58 h) (fun _ => zpc_if (fun _ => fN_fX12_sayZero_58 h) (fun _ => zpc_if (fun _ => fN_fX12_sayZero_58 h) (fun _ => fN_fX12_sayZero_58 h)))) (fun _ => zpc_if (fun _ => zpc_if (fun _ => fN_fX12_sayZero_112 h) (fun _ => fN_fX12_sayZero_112 h)) (fun _ => zpc_if (fun _ => zpc_if (fun _ => fN_fX12_sayZero_186 h) (fun _ => fN_fX12_sayZero_186 h)) (fun _ => zpc_bu (fN_fX12_say h) (fun σ23 hσ23 => zpc_if (fun _ => fN_fX12_sayZero_236 hσ23) (fun _ => zpc_if (fun _ => zpc_bu (fN_fX12_sayHl hσ23) (fun σ25 hσ25 => fN_fX12_sayZero_229 hσ25)) (fun _ => zpc_bu (fN_fX12_say hσ23) (fun σ24 hσ24 => fN_fX12_sayZero_229 hσ24)))))))
theorem fN_fX12_sayZero {σ0 : zSt} {σ : zSt} {x1 : Int32} {x2 : Int32} (h : (zQ [26] [(0, 0, 0), (0, 39, 49), (3, 87, 88), (3, 169, 170)] [] []) σ0 σ) : zpc (fX12_sayZero σ x1 x2) (fun r => (zQ [26] [(0, 0, 0), (0, 39, 49), (3, 87, 88), (3, 169, 170)] [] []) σ0 (r)) := by
  unfold fX12_sayZero
  exact zpc_bv (fun v26 _ => zpc_ck (zpc_if (fun _ => fN_fX12_sayZero_16 h) (fun _ => fN_fX12_sayZero_16 h)))
theorem fN_fX12_saySingle_87 {σ0 : zSt} {σ : zSt} {s0 : Nat} (h : (zQ [26] [(0, 0, 0), (0, 39, 49), (3, 87, 88), (3, 169, 170)] [] []) σ0 σ) : zpc (fX12_saySingle_87 σ s0) (fun r => (zQ [26] [(0, 0, 0), (0, 39, 49), (3, 87, 88), (3, 169, 170)] [] []) σ0 (r)) := by
  unfold fX12_saySingle_87
  exact zpc_bu (fN_fX12_say h) (fun σ1 hσ1 => zpc_some hσ1)
theorem fN_fX12_saySingle_117 {σ0 : zSt} {σ : zSt} {x1 : Int32} {x2 : Int32} {s0 : Nat} (h : (zQ [26] [(0, 0, 0), (0, 39, 49), (3, 87, 88), (3, 169, 170)] [] []) σ0 σ) : zpc (fX12_saySingle_117 σ x1 x2 s0) (fun r => (zQ [26] [(0, 0, 0), (0, 39, 49), (3, 87, 88), (3, 169, 170)] [] []) σ0 (r)) := by
  unfold fX12_saySingle_117
  exact zpc_bu (fN_fX12_say h) (fun σ2 hσ2 => zpc_bu (fN_fX12_sayR hσ2) (fun σ3 hσ3 => zpc_if (fun _ => zpc_bu (fN_fX12_say hσ3) (fun σ4 hσ4 => zpc_bi (fN_fX12_taken hσ4) (fun σ5 v6 hσ5 => zpc_bu (fN_fX12_hex hσ5) (fun σ7 hσ7 => zpc_some hσ7)))) (fun _ => zpc_some hσ3)))
theorem fN_fX12_saySingle {σ0 : zSt} {σ : zSt} {x1 : Int32} {x2 : Int32} (h : (zQ [26] [(0, 0, 0), (0, 39, 49), (3, 87, 88), (3, 169, 170)] [] []) σ0 σ) : zpc (fX12_saySingle σ x1 x2) (fun r => (zQ [26] [(0, 0, 0), (0, 39, 49), (3, 87, 88), (3, 169, 170)] [] []) σ0 (r)) := by
  unfold fX12_saySingle
  exact zpc_if (fun _ => zpc_if (fun _ => fN_fX12_saySingle_87 h) (fun _ => zpc_if (fun _ => fN_fX12_saySingle_87 h) (fun _ => zpc_if (fun _ => fN_fX12_saySingle_87 h) (fun _ => zpc_if (fun _ => fN_fX12_saySingle_87 h) (fun _ => zpc_if (fun _ => fN_fX12_saySingle_87 h) (fun _ => zpc_if (fun _ => fN_fX12_saySingle_87 h) (fun _ => zpc_if (fun _ => fN_fX12_saySingle_87 h) (fun _ => fN_fX12_saySingle_87 h)))))))) (fun _ => zpc_if (fun _ => fN_fX12_saySingle_117 h) (fun _ => zpc_if (fun _ => fN_fX12_saySingle_117 h) (fun _ => fN_fX12_saySingle_117 h)))
theorem fN_fX12_sayThree_266 {σ0 : zSt} {σ : zSt} (h : (zQ [26] [(0, 0, 0), (0, 39, 49), (3, 87, 88), (3, 169, 170)] [] []) σ0 σ) : zpc (fX12_sayThree_266 σ) (fun r => (zQ [26] [(0, 0, 0), (0, 39, 49), (3, 87, 88), (3, 169, 170)] [] []) σ0 (r)) := by
  unfold fX12_sayThree_266
  exact zpc_some h
theorem fN_fX12_sayThree_103 {σ0 : zSt} {σ : zSt} {x3 : Int32} (h : (zQ [26] [(0, 0, 0), (0, 39, 49), (3, 87, 88), (3, 169, 170)] [] []) σ0 σ) : zpc (fX12_sayThree_103 σ x3) (fun r => (zQ [26] [(0, 0, 0), (0, 39, 49), (3, 87, 88), (3, 169, 170)] [] []) σ0 (r)) := by
  unfold fX12_sayThree_103
  exact zpc_if (fun _ => zpc_bu (fN_fX12_say h) (fun σ1 hσ1 => fN_fX12_sayThree_266 hσ1)) (fun _ => fN_fX12_sayThree_266 h)
theorem fN_fX12_sayThree_91 {σ0 : zSt} {σ : zSt} {x3 : Int32} {s0 : Nat} (h : (zQ [26] [(0, 0, 0), (0, 39, 49), (3, 87, 88), (3, 169, 170)] [] []) σ0 σ) : zpc (fX12_sayThree_91 σ x3 s0) (fun r => (zQ [26] [(0, 0, 0), (0, 39, 49), (3, 87, 88), (3, 169, 170)] [] []) σ0 (r)) := by
  unfold fX12_sayThree_91
  exact zpc_bu (fN_fX12_say h) (fun σ2 hσ2 => zpc_if (fun _ => fN_fX12_sayThree_103 hσ2) (fun _ => zpc_bu (fN_fX12_sayHl hσ2) (fun σ3 hσ3 => fN_fX12_sayThree_103 hσ3)))
theorem fN_fX12_sayThree_151 {σ0 : zSt} {σ : zSt} (h : (zQ [26] [(0, 0, 0), (0, 39, 49), (3, 87, 88), (3, 169, 170)] [] []) σ0 σ) : zpc (fX12_sayThree_151 σ) (fun r => (zQ [26] [(0, 0, 0), (0, 39, 49), (3, 87, 88), (3, 169, 170)] [] []) σ0 (r)) := by
  unfold fX12_sayThree_151
  exact zpc_bi (fN_fX12_takenWord h) (fun σ4 v5 hσ4 => zpc_bu (fN_fX12_hex hσ4) (fun σ6 hσ6 => fN_fX12_sayThree_266 hσ6))
theorem fN_fX12_sayThree_127 {σ0 : zSt} {σ : zSt} {x1 : Int32} {x2 : Int32} (h : (zQ [26] [(0, 0, 0), (0, 39, 49), (3, 87, 88), (3, 169, 170)] [] []) σ0 σ) : zpc (fX12_sayThree_127 σ x1 x2) (fun r => (zQ [26] [(0, 0, 0), (0, 39, 49), (3, 87, 88), (3, 169, 170)] [] []) σ0 (r)) := by
  unfold fX12_sayThree_127
  exact zpc_bu (fN_fX12_say h) (fun σ7 hσ7 => zpc_if (fun _ => zpc_bu (fN_fX12_sayCc hσ7) (fun σ8 hσ8 => zpc_bu (fN_fX12_say hσ8) (fun σ9 hσ9 => fN_fX12_sayThree_151 hσ9))) (fun _ => fN_fX12_sayThree_151 hσ7))
theorem fN_fX12_sayThree_210 {σ0 : zSt} {σ : zSt} {s0 : Nat} (h : (zQ [26] [(0, 0, 0), (0, 39, 49), (3, 87, 88), (3, 169, 170)] [] []) σ0 σ) : zpc (fX12_sayThree_210 σ s0) (fun r => (zQ [26] [(0, 0, 0), (0, 39, 49), (3, 87, 88), (3, 169, 170)] [] []) σ0 (r)) := by
  unfold fX12_sayThree_210
  exact zpc_bu (fN_fX12_say h) (fun σ10 hσ10 => fN_fX12_sayThree_266 hσ10)
theorem fN_fX12_sayThree_183 {σ0 : zSt} {σ : zSt} {x1 : Int32} {s0 : Nat} (h : (zQ [26] [(0, 0, 0), (0, 39, 49), (3, 87, 88), (3, 169, 170)] [] []) σ0 σ) : zpc (fX12_sayThree_183 σ x1 s0) (fun r => (zQ [26] [(0, 0, 0), (0, 39, 49), (3, 87, 88), (3, 169, 170)] [] []) σ0 (r)) := by
  unfold fX12_sayThree_183
  exact zpc_bu (fN_fX12_say h) (fun σ11 hσ11 => zpc_bi (fN_fX12_taken hσ11) (fun σ12 v13 hσ12 => zpc_bu (fN_fX12_hex hσ12) (fun σ14 hσ14 => zpc_if (fun _ => fN_fX12_sayThree_210 hσ14) (fun _ => fN_fX12_sayThree_210 hσ14))))
theorem fN_fX12_sayThree_254 {σ0 : zSt} {σ : zSt} {x1 : Int32} {s0 : Nat} (h : (zQ [26] [(0, 0, 0), (0, 39, 49), (3, 87, 88), (3, 169, 170)] [] []) σ0 σ) : zpc (fX12_sayThree_254 σ x1 s0) (fun r => (zQ [26] [(0, 0, 0), (0, 39, 49), (3, 87, 88), (3, 169, 170)] [] []) σ0 (r)) := by
  unfold fX12_sayThree_254
  exact zpc_bu (fN_fX12_say h) (fun σ15 hσ15 => zpc_if (fun _ => zpc_bu (fN_fX12_sayHl hσ15) (fun σ16 hσ16 => fN_fX12_sayThree_266 hσ16)) (fun _ => fN_fX12_sayThree_266 hσ15))
theorem fN_fX12_sayThree_50 {σ0 : zSt} {σ : zSt} {x1 : Int32} {x2 : Int32} {x3 : Int32} (h : (zQ [26] [(0, 0, 0), (0, 39, 49), (3, 87, 88), (3, 169, 170)] [] []) σ0 σ) : zpc (fX12_sayThree_50 σ x1 x2 x3) (fun r => (zQ [26] [(0, 0, 0), (0, 39, 49), (3, 87, 88), (3, 169, 170)] [] []) σ0 (r)) := by
  unfold fX12_sayThree_50
  exact zpc_if (fun _ => zpc_if (fun _ => fN_fX12_sayThree_91 h) (fun _ => zpc_if (fun _ => fN_fX12_sayThree_91 h) (fun _ => zpc_if (fun _ => fN_fX12_sayThree_91 h) (fun _ => fN_fX12_sayThree_91 h)))) (fun _ => zpc_if (fun _ => fN_fX12_sayThree_127 h) (fun _ => zpc_if (fun _ => fN_fX12_sayThree_127 h) (fun _ => zpc_if (fun _ => zpc_if (fun _ => fN_fX12_sayThree_254 h) (fun _ => zpc_if (fun _ => fN_fX12_sayThree_254 h) (fun _ => zpc_if (fun _ => fN_fX12_sayThree_254 h) (fun _ => fN_fX12_sayThree_254 h)))) (fun _ => zpc_if (fun _ => fN_fX12_sayThree_183 h) (fun _ => fN_fX12_sayThree_183 h)))))
theorem fN_fX12_sayThree {σ0 : zSt} {σ : zSt} {x1 : Int32} {x2 : Int32} (h : (zQ [26] [(0, 0, 0), (0, 39, 49), (3, 87, 88), (3, 169, 170)] [] []) σ0 σ) : zpc (fX12_sayThree σ x1 x2) (fun r => (zQ [26] [(0, 0, 0), (0, 39, 49), (3, 87, 88), (3, 169, 170)] [] []) σ0 (r)) := by
  unfold fX12_sayThree
  exact zpc_bv (fun v17 _ => zpc_if (fun _ => zpc_bu (fN_fX12_say h) (fun σ20 hσ20 => zpc_bu (fN_fX12_sayCc hσ20) (fun σ21 hσ21 => fN_fX12_sayThree_266 hσ21))) (fun _ => zpc_if (fun _ => zpc_ck (zpc_if (fun _ => zpc_bu (fN_fX12_say h) (fun σ18 hσ18 => zpc_bu (fN_fX12_sayRp hσ18) (fun σ19 hσ19 => fN_fX12_sayThree_266 hσ19))) (fun _ => fN_fX12_sayThree_50 h))) (fun _ => fN_fX12_sayThree_50 h)))
theorem fN_fX12_sayLast_115 {σ0 : zSt} {σ : zSt} (h : (zQ [26] [(0, 0, 0), (0, 39, 49), (3, 87, 88), (3, 169, 170)] [] []) σ0 σ) : zpc (fX12_sayLast_115 σ) (fun r => (zQ [26] [(0, 0, 0), (0, 39, 49), (3, 87, 88), (3, 169, 170)] [] []) σ0 (r)) := by
  unfold fX12_sayLast_115
  exact zpc_some h
theorem fN_fX12_sayLast_43 {σ0 : zSt} {σ : zSt} (h : (zQ [26] [(0, 0, 0), (0, 39, 49), (3, 87, 88), (3, 169, 170)] [] []) σ0 σ) : zpc (fX12_sayLast_43 σ) (fun r => (zQ [26] [(0, 0, 0), (0, 39, 49), (3, 87, 88), (3, 169, 170)] [] []) σ0 (r)) := by
  unfold fX12_sayLast_43
  exact zpc_bi (fN_fX12_takenWord h) (fun σ1 v2 hσ1 => zpc_bu (fN_fX12_hex hσ1) (fun σ3 hσ3 => fN_fX12_sayLast_115 hσ3))
theorem fN_fX12_sayLast_19 {σ0 : zSt} {σ : zSt} {x1 : Int32} {x2 : Int32} (h : (zQ [26] [(0, 0, 0), (0, 39, 49), (3, 87, 88), (3, 169, 170)] [] []) σ0 σ) : zpc (fX12_sayLast_19 σ x1 x2) (fun r => (zQ [26] [(0, 0, 0), (0, 39, 49), (3, 87, 88), (3, 169, 170)] [] []) σ0 (r)) := by
  unfold fX12_sayLast_19
  exact zpc_bu (fN_fX12_say h) (fun σ4 hσ4 => zpc_if (fun _ => zpc_bu (fN_fX12_sayCc hσ4) (fun σ5 hσ5 => zpc_bu (fN_fX12_say hσ5) (fun σ6 hσ6 => fN_fX12_sayLast_43 hσ6))) (fun _ => fN_fX12_sayLast_43 hσ4))
theorem fN_fX12_sayLast_55 {σ0 : zSt} {σ : zSt} {x1 : Int32} {x2 : Int32} {x3 : Int32} (h : (zQ [26] [(0, 0, 0), (0, 39, 49), (3, 87, 88), (3, 169, 170)] [] []) σ0 σ) : zpc (fX12_sayLast_55 σ x1 x2 x3) (fun r => (zQ [26] [(0, 0, 0), (0, 39, 49), (3, 87, 88), (3, 169, 170)] [] []) σ0 (r)) := by
  unfold fX12_sayLast_55
  exact zpc_if (fun _ => zpc_bu (fN_fX12_say h) (fun σ13 hσ13 => zpc_bu (fN_fX12_sayRp hσ13) (fun σ14 hσ14 => fN_fX12_sayLast_115 hσ14))) (fun _ => zpc_if (fun _ => zpc_bu (fN_fX12_sayDo h) (fun σ9 hσ9 => zpc_bi (fN_fX12_taken hσ9) (fun σ10 v11 hσ10 => zpc_bu (fN_fX12_hex hσ10) (fun σ12 hσ12 => fN_fX12_sayLast_115 hσ12)))) (fun _ => zpc_bu (fN_fX12_say h) (fun σ7 hσ7 => zpc_bu (fN_fX12_hex hσ7) (fun σ8 hσ8 => fN_fX12_sayLast_115 hσ8))))
theorem fN_fX12_sayLast {σ0 : zSt} {σ : zSt} {x1 : Int32} {x2 : Int32} (h : (zQ [26] [(0, 0, 0), (0, 39, 49), (3, 87, 88), (3, 169, 170)] [] []) σ0 σ) : zpc (fX12_sayLast σ x1 x2) (fun r => (zQ [26] [(0, 0, 0), (0, 39, 49), (3, 87, 88), (3, 169, 170)] [] []) σ0 (r)) := by
  unfold fX12_sayLast
  exact zpc_bv (fun v15 _ => zpc_if (fun _ => fN_fX12_sayLast_19 h) (fun _ => zpc_if (fun _ => zpc_if (fun _ => fN_fX12_sayLast_19 h) (fun _ => fN_fX12_sayLast_55 h)) (fun _ => fN_fX12_sayLast_55 h)))
theorem fN_fX12_sayPlain_137 {σ0 : zSt} {σ : zSt} (h : (zQ [26] [(0, 0, 0), (0, 39, 49), (3, 87, 88), (3, 169, 170)] [] []) σ0 σ) : zpc (fX12_sayPlain_137 σ) (fun r => (zQ [26] [(0, 0, 0), (0, 39, 49), (3, 87, 88), (3, 169, 170)] [] []) σ0 (r)) := by
  unfold fX12_sayPlain_137
  exact zpc_some h
theorem fN_fX12_sayPlain_32 {σ0 : zSt} {σ : zSt} {x1 : Int32} {x2 : Int32} {x3 : Int32} (h : (zQ [26] [(0, 0, 0), (0, 39, 49), (3, 87, 88), (3, 169, 170)] [] []) σ0 σ) : zpc (fX12_sayPlain_32 σ x1 x2 x3) (fun r => (zQ [26] [(0, 0, 0), (0, 39, 49), (3, 87, 88), (3, 169, 170)] [] []) σ0 (r)) := by
  unfold fX12_sayPlain_32
  exact zpc_if (fun _ => zpc_if (fun _ => zpc_bu (fN_fX12_say h) (fun σ9 hσ9 => fN_fX12_sayPlain_137 hσ9)) (fun _ => zpc_if (fun _ => zpc_if (fun _ => zpc_if (fun _ => zpc_bu (fN_fX12_sayLast h) (fun σ1 hσ1 => fN_fX12_sayPlain_137 hσ1)) (fun _ => zpc_bu (fN_fX12_sayThree h) (fun σ2 hσ2 => fN_fX12_sayPlain_137 hσ2))) (fun _ => zpc_bu (fN_fX12_sayDo h) (fun σ3 hσ3 => zpc_bu (fN_fX12_sayR hσ3) (fun σ4 hσ4 => fN_fX12_sayPlain_137 hσ4)))) (fun _ => zpc_bu (fN_fX12_say h) (fun σ5 hσ5 => zpc_bu (fN_fX12_sayR hσ5) (fun σ6 hσ6 => zpc_bu (fN_fX12_say hσ6) (fun σ7 hσ7 => zpc_bu (fN_fX12_sayR hσ7) (fun σ8 hσ8 => fN_fX12_sayPlain_137 hσ8))))))) (fun _ => zpc_bu (fN_fX12_saySingle h) (fun σ10 hσ10 => fN_fX12_sayPlain_137 hσ10))
theorem fN_fX12_sayPlain {σ0 : zSt} {σ : zSt} {x1 : Int32} (h : (zQ [26] [(0, 0, 0), (0, 39, 49), (3, 87, 88), (3, 169, 170)] [] []) σ0 σ) : zpc (fX12_sayPlain σ x1) (fun r => (zQ [26] [(0, 0, 0), (0, 39, 49), (3, 87, 88), (3, 169, 170)] [] []) σ0 (r)) := by
  unfold fX12_sayPlain
  exact zpc_bv (fun v11 _ => zpc_bv (fun v12 _ => zpc_if (fun _ => fN_fX12_sayPlain_32 h) (fun _ => zpc_if (fun _ => fN_fX12_sayPlain_32 h) (fun _ => zpc_bu (fN_fX12_sayZero h) (fun σ13 hσ13 => fN_fX12_sayPlain_137 hσ13)))))
theorem fN_fX12_sayPrefixed_30 {σ0 : zSt} {σ : zSt} (h : (zQ [26] [(0, 0, 0), (0, 39, 49), (3, 87, 88), (3, 169, 170)] [] []) σ0 σ) : zpc (fX12_sayPrefixed_30 σ) (fun r => (zQ [26] [(0, 0, 0), (0, 39, 49), (3, 87, 88), (3, 169, 170)] [] []) σ0 (r)) := by
  unfold fX12_sayPrefixed_30
  exact zpc_bu (fN_fX12_say h) (fun σ1 hσ1 => zpc_some hσ1)
theorem fN_fX12_sayPrefixed_133 {σ0 : zSt} {σ : zSt} (h : (zQ [26] [(0, 0, 0), (0, 39, 49), (3, 87, 88), (3, 169, 170)] [] []) σ0 σ) : zpc (fX12_sayPrefixed_133 σ) (fun r => (zQ [26] [(0, 0, 0), (0, 39, 49), (3, 87, 88), (3, 169, 170)] [] []) σ0 (r)) := by
  unfold fX12_sayPrefixed_133
  exact zpc_some h
theorem fN_fX12_sayPrefixed_240 {σ0 : zSt} {σ : zSt} {x2 : Int32} (h : (zQ [26] [(0, 0, 0), (0, 39, 49), (3, 87, 88), (3, 169, 170)] [] []) σ0 σ) : zpc (fX12_sayPrefixed_240 σ x2) (fun r => (zQ [26] [(0, 0, 0), (0, 39, 49), (3, 87, 88), (3, 169, 170)] [] []) σ0 (r)) := by
  unfold fX12_sayPrefixed_240
  exact zpc_bu (fN_fX12_sayPlain h) (fun σ2 hσ2 => zpc_some hσ2)
theorem fN_fX12_sayPrefixed_219 {σ0 : zSt} {σ : zSt} {x2 : Int32} {s0 : Int32} (h : (zQ [26] [(0, 0, 0), (0, 39, 49), (3, 87, 88), (3, 169, 170)] [] []) σ0 σ) : zpc (fX12_sayPrefixed_219 σ x2 s0) (fun r => (zQ [26] [(0, 0, 0), (0, 39, 49), (3, 87, 88), (3, 169, 170)] [] []) σ0 (r)) := by
  unfold fX12_sayPrefixed_219
  exact zpc_ck (zpc_bs (zQ.wi h rfl) (fun σ3 hσ3 => zpc_if (fun _ => fN_fX12_sayPrefixed_240 hσ3) (fun _ => zpc_bi (fN_fX12_taken hσ3) (fun σ4 v5 hσ4 => zpc_bi (fN_fX12_signed hσ4) (fun σ6 v7 hσ6 => zpc_bs (zQ.wi hσ6 rfl) (fun σ8 hσ8 => fN_fX12_sayPrefixed_240 hσ8))))))
theorem fN_fX12_sayPrefixed_218 {σ0 : zSt} {σ : zSt} {x2 : Int32} (h : (zQ [26] [(0, 0, 0), (0, 39, 49), (3, 87, 88), (3, 169, 170)] [] []) σ0 σ) : zpc (fX12_sayPrefixed_218 σ x2) (fun r => (zQ [26] [(0, 0, 0), (0, 39, 49), (3, 87, 88), (3, 169, 170)] [] []) σ0 (r)) := by
  unfold fX12_sayPrefixed_218
  exact fN_fX12_sayPrefixed_219 h
theorem fN_fX12_sayPrefixed_214 {σ0 : zSt} {σ : zSt} {x2 : Int32} (h : (zQ [26] [(0, 0, 0), (0, 39, 49), (3, 87, 88), (3, 169, 170)] [] []) σ0 σ) : zpc (fX12_sayPrefixed_214 σ x2) (fun r => (zQ [26] [(0, 0, 0), (0, 39, 49), (3, 87, 88), (3, 169, 170)] [] []) σ0 (r)) := by
  unfold fX12_sayPrefixed_214
  exact fN_fX12_sayPrefixed_219 h
theorem fN_fX12_sayPrefixed_201 {σ0 : zSt} {σ : zSt} {x2 : Int32} {x4 : Int32} {x5 : Int32} (h : (zQ [26] [(0, 0, 0), (0, 39, 49), (3, 87, 88), (3, 169, 170)] [] []) σ0 σ) : zpc (fX12_sayPrefixed_201 σ x2 x4 x5) (fun r => (zQ [26] [(0, 0, 0), (0, 39, 49), (3, 87, 88), (3, 169, 170)] [] []) σ0 (r)) := by
  unfold fX12_sayPrefixed_201
  exact zpc_if (fun _ => zpc_if (fun _ => fN_fX12_sayPrefixed_214 h) (fun _ => fN_fX12_sayPrefixed_218 h)) (fun _ => fN_fX12_sayPrefixed_218 h)
theorem fN_fX12_sayPrefixed_195 {σ0 : zSt} {σ : zSt} {x2 : Int32} {x4 : Int32} {x5 : Int32} (h : (zQ [26] [(0, 0, 0), (0, 39, 49), (3, 87, 88), (3, 169, 170)] [] []) σ0 σ) : zpc (fX12_sayPrefixed_195 σ x2 x4 x5) (fun r => (zQ [26] [(0, 0, 0), (0, 39, 49), (3, 87, 88), (3, 169, 170)] [] []) σ0 (r)) := by
  unfold fX12_sayPrefixed_195
  exact zpc_if (fun _ => fN_fX12_sayPrefixed_201 h) (fun _ => fN_fX12_sayPrefixed_214 h)
theorem fN_fX12_sayPrefixed_176 {σ0 : zSt} {σ : zSt} {x2 : Int32} {x3 : Int32} {x4 : Int32} {x5 : Int32} (h : (zQ [26] [(0, 0, 0), (0, 39, 49), (3, 87, 88), (3, 169, 170)] [] []) σ0 σ) : zpc (fX12_sayPrefixed_176 σ x2 x3 x4 x5) (fun r => (zQ [26] [(0, 0, 0), (0, 39, 49), (3, 87, 88), (3, 169, 170)] [] []) σ0 (r)) := by
  unfold fX12_sayPrefixed_176
  exact zpc_if (fun _ => zpc_if (fun _ => fN_fX12_sayPrefixed_195 h) (fun _ => zpc_if (fun _ => fN_fX12_sayPrefixed_195 h) (fun _ => fN_fX12_sayPrefixed_201 h))) (fun _ => fN_fX12_sayPrefixed_201 h)
theorem fN_fX12_sayPrefixed {σ0 : zSt} {σ : zSt} {x1 : Int32} (h : (zQ [26] [(0, 0, 0), (0, 39, 49), (3, 87, 88), (3, 169, 170)] [] []) σ0 σ) : zpc (fX12_sayPrefixed σ x1) (fun r => (zQ [26] [(0, 0, 0), (0, 39, 49), (3, 87, 88), (3, 169, 170)] [] []) σ0 (r)) := by
  unfold fX12_sayPrefixed
  exact zpc_bi (fN_fX12_read h) (fun σ9 v10 hσ9 => zpc_if (fun _ => fN_fX12_sayPrefixed_30 hσ9) (fun _ => zpc_if (fun _ => fN_fX12_sayPrefixed_30 hσ9) (fun _ => zpc_if (fun _ => fN_fX12_sayPrefixed_30 hσ9) (fun _ => zpc_bs (zQ.wi hσ9 rfl) (fun σ11 hσ11 => zpc_bs (zQ.wi hσ11 rfl) (fun σ12 hσ12 => zpc_bv (fun v13 _ => zpc_bv (fun v14 _ => zpc_bv (fun v15 _ => zpc_if (fun _ => zpc_bi (fN_fX12_taken hσ12) (fun σ16 v17 hσ16 => zpc_bi (fN_fX12_signed hσ16) (fun σ18 v19 hσ18 => zpc_bs (zQ.wi hσ18 rfl) (fun σ20 hσ20 => zpc_ck (zpc_bs (zQ.wi hσ20 rfl) (fun σ21 hσ21 => zpc_bi (fN_fX12_taken hσ21) (fun σ22 v23 hσ22 => zpc_bu (fN_fX12_sayTurn hσ22) (fun σ24 hσ24 => zpc_if (fun _ => fN_fX12_sayPrefixed_133 hσ24) (fun _ => zpc_ck (zpc_if (fun _ => fN_fX12_sayPrefixed_133 hσ24) (fun _ => zpc_bu (fN_fX12_say hσ24) (fun σ25 hσ25 => zpc_ck (zpc_bu (fN_fX12_sayR hσ25) (fun σ26 hσ26 => zpc_some hσ26)))))))))))))) (fun _ => zpc_if (fun _ => zpc_if (fun _ => fN_fX12_sayPrefixed_176 hσ12) (fun _ => zpc_if (fun _ => fN_fX12_sayPrefixed_176 hσ12) (fun _ => zpc_if (fun _ => fN_fX12_sayPrefixed_214 hσ12) (fun _ => fN_fX12_sayPrefixed_176 hσ12)))) (fun _ => fN_fX12_sayPrefixed_176 hσ12)))))))))))
theorem fN_fX12_sayOdd_155 {σ0 : zSt} {σ : zSt} (h : (zQ [26] [(0, 0, 0), (0, 39, 49), (3, 87, 88), (3, 169, 170)] [] []) σ0 σ) : zpc (fX12_sayOdd_155 σ) (fun r => (zQ [26] [(0, 0, 0), (0, 39, 49), (3, 87, 88), (3, 169, 170)] [] []) σ0 (r)) := by
  unfold fX12_sayOdd_155
  exact zpc_some h
theorem fN_fX12_sayOdd_35 {σ0 : zSt} {σ : zSt} {s0 : Nat} (h : (zQ [26] [(0, 0, 0), (0, 39, 49), (3, 87, 88), (3, 169, 170)] [] []) σ0 σ) : zpc (fX12_sayOdd_35 σ s0) (fun r => (zQ [26] [(0, 0, 0), (0, 39, 49), (3, 87, 88), (3, 169, 170)] [] []) σ0 (r)) := by
  unfold fX12_sayOdd_35
  exact zpc_bu (fN_fX12_say h) (fun σ1 hσ1 => fN_fX12_sayOdd_155 hσ1)
theorem fN_fX12_sayOdd_77 {σ0 : zSt} {σ : zSt} {s0 : Nat} (h : (zQ [26] [(0, 0, 0), (0, 39, 49), (3, 87, 88), (3, 169, 170)] [] []) σ0 σ) : zpc (fX12_sayOdd_77 σ s0) (fun r => (zQ [26] [(0, 0, 0), (0, 39, 49), (3, 87, 88), (3, 169, 170)] [] []) σ0 (r)) := by
  unfold fX12_sayOdd_77
  exact zpc_bu (fN_fX12_say h) (fun σ2 hσ2 => fN_fX12_sayOdd_155 hσ2)
theorem fN_fX12_sayOdd_152 {σ0 : zSt} {σ : zSt} {s0 : Nat} (h : (zQ [26] [(0, 0, 0), (0, 39, 49), (3, 87, 88), (3, 169, 170)] [] []) σ0 σ) : zpc (fX12_sayOdd_152 σ s0) (fun r => (zQ [26] [(0, 0, 0), (0, 39, 49), (3, 87, 88), (3, 169, 170)] [] []) σ0 (r)) := by
  unfold fX12_sayOdd_152
  exact zpc_bu (fN_fX12_say h) (fun σ3 hσ3 => fN_fX12_sayOdd_155 hσ3)
theorem fN_fX12_sayOdd {σ0 : zSt} {σ : zSt} {x1 : Int32} {x2 : Int32} (h : (zQ [26] [(0, 0, 0), (0, 39, 49), (3, 87, 88), (3, 169, 170)] [] []) σ0 σ) : zpc (fX12_sayOdd σ x1 x2) (fun r => (zQ [26] [(0, 0, 0), (0, 39, 49), (3, 87, 88), (3, 169, 170)] [] []) σ0 (r)) := by
  unfold fX12_sayOdd
  exact zpc_if (fun _ => zpc_bu (fN_fX12_say h) (fun σ4 hσ4 => fN_fX12_sayOdd_155 hσ4)) (fun _ => zpc_if (fun _ => zpc_if (fun _ => fN_fX12_sayOdd_35 h) (fun _ => fN_fX12_sayOdd_35 h)) (fun _ => zpc_if (fun _ => zpc_ck (zpc_if (fun _ => zpc_ck (zpc_if (fun _ => fN_fX12_sayOdd_77 h) (fun _ => fN_fX12_sayOdd_77 h))) (fun _ => fN_fX12_sayOdd_77 h))) (fun _ => zpc_if (fun _ => fN_fX12_sayOdd_152 h) (fun _ => zpc_if (fun _ => fN_fX12_sayOdd_152 h) (fun _ => zpc_if (fun _ => fN_fX12_sayOdd_152 h) (fun _ => zpc_if (fun _ => fN_fX12_sayOdd_152 h) (fun _ => zpc_if (fun _ => fN_fX12_sayOdd_152 h) (fun _ => zpc_if (fun _ => fN_fX12_sayOdd_152 h) (fun _ => fN_fX12_sayOdd_152 h)))))))))
theorem fN_fX12_sayMore_325 {σ0 : zSt} {σ : zSt} (h : (zQ [26] [(0, 0, 0), (0, 39, 49), (3, 87, 88), (3, 169, 170)] [] []) σ0 σ) : zpc (fX12_sayMore_325 σ) (fun r => (zQ [26] [(0, 0, 0), (0, 39, 49), (3, 87, 88), (3, 169, 170)] [] []) σ0 (r)) := by
  unfold fX12_sayMore_325
  exact zpc_some h
theorem fN_fX12_sayMore_164 {σ0 : zSt} {σ : zSt} (h : (zQ [26] [(0, 0, 0), (0, 39, 49), (3, 87, 88), (3, 169, 170)] [] []) σ0 σ) : zpc (fX12_sayMore_164 σ) (fun r => (zQ [26] [(0, 0, 0), (0, 39, 49), (3, 87, 88), (3, 169, 170)] [] []) σ0 (r)) := by
  unfold fX12_sayMore_164
  exact zpc_bu (fN_fX12_say h) (fun σ1 hσ1 => fN_fX12_sayMore_325 hσ1)
theorem fN_fX12_sayMore_231 {σ0 : zSt} {σ : zSt} {x2 : Int32} {s0 : Nat} (h : (zQ [26] [(0, 0, 0), (0, 39, 49), (3, 87, 88), (3, 169, 170)] [] []) σ0 σ) : zpc (fX12_sayMore_231 σ x2 s0) (fun r => (zQ [26] [(0, 0, 0), (0, 39, 49), (3, 87, 88), (3, 169, 170)] [] []) σ0 (r)) := by
  unfold fX12_sayMore_231
  exact zpc_bu (fN_fX12_say h) (fun σ2 hσ2 => zpc_bu (fN_fX12_sayRp hσ2) (fun σ3 hσ3 => fN_fX12_sayMore_325 hσ3))
theorem fN_fX12_sayMore_316 {σ0 : zSt} {σ : zSt} (h : (zQ [26] [(0, 0, 0), (0, 39, 49), (3, 87, 88), (3, 169, 170)] [] []) σ0 σ) : zpc (fX12_sayMore_316 σ) (fun r => (zQ [26] [(0, 0, 0), (0, 39, 49), (3, 87, 88), (3, 169, 170)] [] []) σ0 (r)) := by
  unfold fX12_sayMore_316
  exact fN_fX12_sayMore_325 h
theorem fN_fX12_sayMore_286 {σ0 : zSt} {σ : zSt} {x2 : Int32} {x5 : Int32} (h : (zQ [26] [(0, 0, 0), (0, 39, 49), (3, 87, 88), (3, 169, 170)] [] []) σ0 σ) : zpc (fX12_sayMore_286 σ x2 x5) (fun r => (zQ [26] [(0, 0, 0), (0, 39, 49), (3, 87, 88), (3, 169, 170)] [] []) σ0 (r)) := by
  unfold fX12_sayMore_286
  exact zpc_bu (fN_fX12_say h) (fun σ4 hσ4 => zpc_ck (zpc_if (fun _ => zpc_bu (fN_fX12_sayRp hσ4) (fun σ6 hσ6 => fN_fX12_sayMore_316 hσ6)) (fun _ => zpc_bu (fN_fX12_sayPlaced hσ4) (fun σ5 hσ5 => fN_fX12_sayMore_316 hσ5))))
theorem fN_fX12_sayMore_119 {σ0 : zSt} {σ : zSt} {x2 : Int32} {x3 : Int32} {x4 : Int32} (h : (zQ [26] [(0, 0, 0), (0, 39, 49), (3, 87, 88), (3, 169, 170)] [] []) σ0 σ) : zpc (fX12_sayMore_119 σ x2 x3 x4) (fun r => (zQ [26] [(0, 0, 0), (0, 39, 49), (3, 87, 88), (3, 169, 170)] [] []) σ0 (r)) := by
  unfold fX12_sayMore_119
  exact zpc_if (fun _ => zpc_if (fun _ => zpc_bu (fN_fX12_say h) (fun σ16 hσ16 => zpc_if (fun _ => fN_fX12_sayMore_164 hσ16) (fun _ => zpc_bu (fN_fX12_sayR hσ16) (fun σ17 hσ17 => zpc_bu (fN_fX12_say hσ17) (fun σ18 hσ18 => fN_fX12_sayMore_164 hσ18))))) (fun _ => zpc_if (fun _ => zpc_bu (fN_fX12_say h) (fun σ13 hσ13 => zpc_if (fun _ => zpc_bu (fN_fX12_say hσ13) (fun σ15 hσ15 => fN_fX12_sayMore_325 hσ15)) (fun _ => zpc_bu (fN_fX12_sayR hσ13) (fun σ14 hσ14 => fN_fX12_sayMore_325 hσ14)))) (fun _ => zpc_if (fun _ => zpc_ck (zpc_if (fun _ => fN_fX12_sayMore_231 h) (fun _ => fN_fX12_sayMore_231 h))) (fun _ => zpc_if (fun _ => zpc_bu (fN_fX12_say h) (fun σ8 hσ8 => zpc_bi (fN_fX12_takenWord hσ8) (fun σ9 v10 hσ9 => zpc_ck (zpc_if (fun _ => zpc_bu (fN_fX12_sayPlaced hσ9) (fun σ12 hσ12 => fN_fX12_sayMore_286 hσ12)) (fun _ => zpc_bu (fN_fX12_sayRp hσ9) (fun σ11 hσ11 => fN_fX12_sayMore_286 hσ11)))))) (fun _ => zpc_bu (fN_fX12_sayOdd h) (fun σ7 hσ7 => fN_fX12_sayMore_325 hσ7)))))) (fun _ => zpc_bu (fN_fX12_say h) (fun σ19 hσ19 => fN_fX12_sayMore_325 hσ19))
theorem fN_fX12_sayMore_101 {σ0 : zSt} {σ : zSt} {x2 : Int32} {s0 : Nat} (h : (zQ [26] [(0, 0, 0), (0, 39, 49), (3, 87, 88), (3, 169, 170)] [] []) σ0 σ) : zpc (fX12_sayMore_101 σ x2 s0) (fun r => (zQ [26] [(0, 0, 0), (0, 39, 49), (3, 87, 88), (3, 169, 170)] [] []) σ0 (r)) := by
  unfold fX12_sayMore_101
  exact zpc_bu (fN_fX12_say h) (fun σ20 hσ20 => zpc_if (fun _ => fN_fX12_sayMore_325 hσ20) (fun _ => zpc_bu (fN_fX12_say hσ20) (fun σ21 hσ21 => fN_fX12_sayMore_325 hσ21)))
theorem fN_fX12_sayMore_82 {σ0 : zSt} {σ : zSt} {x2 : Int32} {s0 : Nat} (h : (zQ [26] [(0, 0, 0), (0, 39, 49), (3, 87, 88), (3, 169, 170)] [] []) σ0 σ) : zpc (fX12_sayMore_82 σ x2 s0) (fun r => (zQ [26] [(0, 0, 0), (0, 39, 49), (3, 87, 88), (3, 169, 170)] [] []) σ0 (r)) := by
  unfold fX12_sayMore_82
  exact zpc_bu (fN_fX12_say h) (fun σ22 hσ22 => zpc_ck (zpc_if (fun _ => fN_fX12_sayMore_101 hσ22) (fun _ => fN_fX12_sayMore_101 hσ22)))
theorem fN_fX12_sayMore {σ0 : zSt} {σ : zSt} {x1 : Int32} (h : (zQ [26] [(0, 0, 0), (0, 39, 49), (3, 87, 88), (3, 169, 170)] [] []) σ0 σ) : zpc (fX12_sayMore σ x1) (fun r => (zQ [26] [(0, 0, 0), (0, 39, 49), (3, 87, 88), (3, 169, 170)] [] []) σ0 (r)) := by
  unfold fX12_sayMore
  exact zpc_bv (fun v23 _ => zpc_bv (fun v24 _ => zpc_bv (fun v25 _ => zpc_if (fun _ => zpc_if (fun _ => fN_fX12_sayMore_119 h) (fun _ => zpc_if (fun _ => fN_fX12_sayMore_119 h) (fun _ => zpc_if (fun _ => fN_fX12_sayMore_82 h) (fun _ => zpc_if (fun _ => fN_fX12_sayMore_82 h) (fun _ => zpc_if (fun _ => fN_fX12_sayMore_82 h) (fun _ => zpc_if (fun _ => fN_fX12_sayMore_82 h) (fun _ => fN_fX12_sayMore_82 h))))))) (fun _ => fN_fX12_sayMore_119 h))))
theorem fN_fX12_tell_112 {σ0 : zSt} {σ : zSt} {x2 : Int32} (h : (zQ [26] [(0, 0, 0), (0, 39, 49), (3, 87, 88), (3, 169, 170)] [] []) σ0 σ) : zpc (fX12_tell_112 σ x2) (fun r => (zQ [26] [(0, 0, 0), (0, 39, 49), (3, 87, 88), (3, 169, 170)] [] []) σ0 (r.1)) := by
  unfold fX12_tell_112
  exact zpc_some h
theorem fN_fX12_tell_65 {σ0 : zSt} {σ : zSt} {x2 : Int32} {s0 : Int32} (h : (zQ [26] [(0, 0, 0), (0, 39, 49), (3, 87, 88), (3, 169, 170)] [] []) σ0 σ) : zpc (fX12_tell_65 σ x2 s0) (fun r => (zQ [26] [(0, 0, 0), (0, 39, 49), (3, 87, 88), (3, 169, 170)] [] []) σ0 (r.1)) := by
  unfold fX12_tell_65
  exact zpc_bu (fN_fX12_sayPrefixed h) (fun σ1 hσ1 => fN_fX12_tell_112 hσ1)
theorem fN_fX12_tell_52 {σ0 : zSt} {σ : zSt} {x2 : Int32} {x3 : Int32} (h : (zQ [26] [(0, 0, 0), (0, 39, 49), (3, 87, 88), (3, 169, 170)] [] []) σ0 σ) : zpc (fX12_tell_52 σ x2 x3) (fun r => (zQ [26] [(0, 0, 0), (0, 39, 49), (3, 87, 88), (3, 169, 170)] [] []) σ0 (r.1)) := by
  unfold fX12_tell_52
  exact zpc_if (fun _ => fN_fX12_tell_65 h) (fun _ => fN_fX12_tell_65 h)
theorem fN_fX12_tell {σ0 : zSt} {σ : zSt} {x1 : Int32} (h : (zQ [26] [(0, 0, 0), (0, 39, 49), (3, 87, 88), (3, 169, 170)] [] []) σ0 σ) : zpc (fX12_tell σ x1) (fun r => (zQ [26] [(0, 0, 0), (0, 39, 49), (3, 87, 88), (3, 169, 170)] [] []) σ0 (r.1)) := by
  unfold fX12_tell
  exact zpc_bs (zQ.wi h rfl) (fun σ2 hσ2 => zpc_bs (zQ.wi hσ2 rfl) (fun σ3 hσ3 => zpc_bs (zQ.wi hσ3 rfl) (fun σ4 hσ4 => zpc_bs (zQ.wi hσ4 rfl) (fun σ5 hσ5 => zpc_ck (zpc_bs (zQ.wi hσ5 rfl) (fun σ6 hσ6 => zpc_bv (fun v7 _ => zpc_bi (fN_fX12_taken hσ6) (fun σ8 v9 hσ8 => zpc_if (fun _ => fN_fX12_tell_52 hσ8) (fun _ => zpc_if (fun _ => fN_fX12_tell_52 hσ8) (fun _ => zpc_if (fun _ => zpc_bi (fN_fX12_taken hσ8) (fun σ14 v15 hσ14 => zpc_bu (fN_fX12_sayTurn hσ14) (fun σ16 hσ16 => fN_fX12_tell_112 hσ16))) (fun _ => zpc_if (fun _ => zpc_bi (fN_fX12_taken hσ8) (fun σ11 v12 hσ11 => zpc_bu (fN_fX12_sayMore hσ11) (fun σ13 hσ13 => fN_fX12_tell_112 hσ13))) (fun _ => zpc_bu (fN_fX12_sayPlain hσ8) (fun σ10 hσ10 => fN_fX12_tell_112 hσ10)))))))))))))
theorem fN_fX12_text_70 {σ0 : zSt} {k37 : zSt → Int32 → Int64 → Int32 → Option (zSt × Int64)} (hk37 : ∀ (y0 : zSt) (y1 : Int32) (y2 : Int64) (y3 : Int32), (zQ [26] [(0, 0, 0), (0, 39, 49), (3, 87, 88), (3, 169, 170)] [] []) σ0 y0 → zpc (k37 y0 y1 y2 y3) (fun r => (zQ [26] [(0, 0, 0), (0, 39, 49), (3, 87, 88), (3, 169, 170)] [] []) σ0 (r.1))) {σ : zSt} {x1 : Int32} {x4 : Int32} {s0 : Int32} {s1 : Int64} (h : (zQ [26] [(0, 0, 0), (0, 39, 49), (3, 87, 88), (3, 169, 170)] [] []) σ0 σ) : zpc (fX12_text_70 k37 σ x1 x4 s0 s1) (fun r => (zQ [26] [(0, 0, 0), (0, 39, 49), (3, 87, 88), (3, 169, 170)] [] []) σ0 (r.1)) := by
  unfold fX12_text_70
  exact zpc_bv (fun v1 _ => zpc_bv (fun v2 _ => hk37 _ _ _ _ h))
theorem fN_fX12_text_37_body {σ0 : zSt} {k37 : zSt → Int32 → Int64 → Int32 → Option (zSt × Int64)} (hk37 : ∀ (y0 : zSt) (y1 : Int32) (y2 : Int64) (y3 : Int32), (zQ [26] [(0, 0, 0), (0, 39, 49), (3, 87, 88), (3, 169, 170)] [] []) σ0 y0 → zpc (k37 y0 y1 y2 y3) (fun r => (zQ [26] [(0, 0, 0), (0, 39, 49), (3, 87, 88), (3, 169, 170)] [] []) σ0 (r.1))) {σ : zSt} {x1 : Int32} {x2 : Int64} {x4 : Int32} (h : (zQ [26] [(0, 0, 0), (0, 39, 49), (3, 87, 88), (3, 169, 170)] [] []) σ0 σ) : zpc (fX12_text_37_body k37 σ x1 x2 x4) (fun r => (zQ [26] [(0, 0, 0), (0, 39, 49), (3, 87, 88), (3, 169, 170)] [] []) σ0 (r.1)) := by
  unfold fX12_text_37_body
  exact zpc_if (fun _ => zpc_some h) (fun _ => zpc_if (fun _ => fN_fX12_text_70 hk37 h) (fun _ => zpc_ck (fN_fX12_text_70 hk37 h)))
theorem fN_fX12_text_37 {σ0 : zSt} : ∀ (n : Nat) (y0 : zSt) (y1 : Int32) (y2 : Int64) (y3 : Int32), (zQ [26] [(0, 0, 0), (0, 39, 49), (3, 87, 88), (3, 169, 170)] [] []) σ0 y0 → zpc (fX12_text_37 n y0 y1 y2 y3) (fun r => (zQ [26] [(0, 0, 0), (0, 39, 49), (3, 87, 88), (3, 169, 170)] [] []) σ0 (r.1)) := by
  intro n
  induction n with
  | zero => intro y0 y1 y2 y3 h; exact zpc_none
  | succ n ih => intro y0 y1 y2 y3 h; exact fN_fX12_text_37_body ih h
theorem fN_fX12_text_22 {σ0 : zSt} {σ : zSt} {x1 : Int32} {s0 : Int32} (h : (zQ [26] [(0, 0, 0), (0, 39, 49), (3, 87, 88), (3, 169, 170)] [] []) σ0 σ) : zpc (fX12_text_22 σ x1 s0) (fun r => (zQ [26] [(0, 0, 0), (0, 39, 49), (3, 87, 88), (3, 169, 170)] [] []) σ0 (r.1)) := by
  unfold fX12_text_22
  exact zpc_bi (fN_fX12_fails h) (fun σ3 v4 hσ3 => zpc_if (fun _ => fN_fX12_text_37 _ _ _ _ _ hσ3) (fun _ => zpc_some hσ3))
theorem fN_fX12_text {σ0 : zSt} {σ : zSt} {x1 : Int32} (h : (zQ [26] [(0, 0, 0), (0, 39, 49), (3, 87, 88), (3, 169, 170)] [] []) σ0 σ) : zpc (fX12_text σ x1) (fun r => (zQ [26] [(0, 0, 0), (0, 39, 49), (3, 87, 88), (3, 169, 170)] [] []) σ0 (r.1)) := by
  unfold fX12_text
  exact zpc_bi (fN_fX12_within h) (fun σ5 v6 hσ5 => zpc_if (fun _ => fN_fX12_text_22 hσ5) (fun _ => fN_fX12_text_22 hσ5))
