theorem fD_fX12_bit {σ0 : zSt} {σ : zSt} {x1 : Int32} {x2 : Int32} (h : (zQ [22, 23, 24, 25, 9] [(3, 62, 62)] [] []) σ0 σ) : zpc (fX12_bit σ x1 x2) (fun r => (zQ [22, 23, 24, 25, 9] [(3, 62, 62)] [] []) σ0 (r.1)) := by
  unfold fX12_bit
  exact zpc_ck (zpc_some h)
theorem fD_fX12_mode_57 {σ0 : zSt} {σ : zSt} {s0 : Int32} (h : (zQ [22, 23, 24, 25, 9] [(3, 62, 62)] [] []) σ0 σ) : zpc (fX12_mode_57 σ s0) (fun r => (zQ [22, 23, 24, 25, 9] [(3, 62, 62)] [] []) σ0 (r.1)) := by
  unfold fX12_mode_57
  exact zpc_some h
theorem fD_fX12_mode {σ0 : zSt} {σ : zSt} (h : (zQ [22, 23, 24, 25, 9] [(3, 62, 62)] [] []) σ0 σ) : zpc (fX12_mode σ) (fun r => (zQ [22, 23, 24, 25, 9] [(3, 62, 62)] [] []) σ0 (r.1)) := by
  unfold fX12_mode
  exact zpc_bi (fD_fX12_bit h) (fun σ1 v2 hσ1 => zpc_if (fun _ => fD_fX12_mode_57 hσ1) (fun _ => zpc_bi (fD_fX12_bit hσ1) (fun σ3 v4 hσ3 => zpc_if (fun _ => fD_fX12_mode_57 hσ3) (fun _ => zpc_bi (fD_fX12_bit hσ3) (fun σ5 v6 hσ5 => zpc_if (fun _ => fD_fX12_mode_57 hσ5) (fun _ => zpc_bi (fD_fX12_bit hσ5) (fun σ7 v8 hσ7 => zpc_if (fun _ => fD_fX12_mode_57 hσ7) (fun _ => fD_fX12_mode_57 hσ7))))))))
theorem fD_fX12_height_32 {σ0 : zSt} {σ : zSt} (h : (zQ [22, 23, 24, 25, 9] [(3, 62, 62)] [] []) σ0 σ) : zpc (fX12_height_32 σ) (fun r => (zQ [22, 23, 24, 25, 9] [(3, 62, 62)] [] []) σ0 (r.1)) := by
  unfold fX12_height_32
  exact zpc_some h
theorem fD_fX12_height_55 {σ0 : zSt} {σ : zSt} {s0 : Int32} (h : (zQ [22, 23, 24, 25, 9] [(3, 62, 62)] [] []) σ0 σ) : zpc (fX12_height_55 σ s0) (fun r => (zQ [22, 23, 24, 25, 9] [(3, 62, 62)] [] []) σ0 (r.1)) := by
  unfold fX12_height_55
  exact zpc_some h
theorem fD_fX12_height {σ0 : zSt} {σ : zSt} (h : (zQ [22, 23, 24, 25, 9] [(3, 62, 62)] [] []) σ0 σ) : zpc (fX12_height σ) (fun r => (zQ [22, 23, 24, 25, 9] [(3, 62, 62)] [] []) σ0 (r.1)) := by
  unfold fX12_height
  exact zpc_bi (fD_fX12_mode h) (fun σ1 v2 hσ1 => zpc_if (fun _ => zpc_bi (fD_fX12_bit hσ1) (fun σ3 v4 hσ3 => zpc_if (fun _ => fD_fX12_height_32 hσ3) (fun _ => zpc_bi (fD_fX12_bit hσ3) (fun σ5 v6 hσ5 => zpc_bi (fD_fX12_bit hσ5) (fun σ7 v8 hσ7 => zpc_if (fun _ => fD_fX12_height_32 hσ7) (fun _ => zpc_bi (fD_fX12_bit hσ7) (fun σ9 v10 hσ9 => zpc_if (fun _ => fD_fX12_height_55 hσ9) (fun _ => fD_fX12_height_55 hσ9)))))))) (fun _ => fD_fX12_height_32 hσ1))
theorem fD_fX12_video8 {σ0 : zSt} {σ : zSt} {x1 : Int32} (h : (zQ [22, 23, 24, 25, 9] [(3, 62, 62)] [] []) σ0 σ) : zpc (fX12_video8 σ x1) (fun r => (zQ [22, 23, 24, 25, 9] [(3, 62, 62)] [] []) σ0 (r.1)) := by
  unfold fX12_video8
  exact zpc_ck (zpc_some h)
theorem fD_fX12_reg {σ0 : zSt} {σ : zSt} {x1 : Int32} (h : (zQ [22, 23, 24, 25, 9] [(3, 62, 62)] [] []) σ0 σ) : zpc (fX12_reg σ x1) (fun r => (zQ [22, 23, 24, 25, 9] [(3, 62, 62)] [] []) σ0 (r.1)) := by
  unfold fX12_reg
  exact zpc_ck (zpc_some h)
theorem fD_fX12_tileDot_6_body {σ0 : zSt} {k6 : zSt → Int32 → Int32 → Int32 → Int32 → Int32 → Option (zSt × Int32)} (hk6 : ∀ (y0 : zSt) (y1 : Int32) (y2 : Int32) (y3 : Int32) (y4 : Int32) (y5 : Int32), (zQ [22, 23, 24, 25, 9] [(3, 62, 62)] [] []) σ0 y0 → zpc (k6 y0 y1 y2 y3 y4 y5) (fun r => (zQ [22, 23, 24, 25, 9] [(3, 62, 62)] [] []) σ0 (r.1))) {σ : zSt} {x1 : Int32} {x2 : Int32} {x3 : Int32} {x4 : Int32} {x5 : Int32} (h : (zQ [22, 23, 24, 25, 9] [(3, 62, 62)] [] []) σ0 σ) : zpc (fX12_tileDot_6_body k6 σ x1 x2 x3 x4 x5) (fun r => (zQ [22, 23, 24, 25, 9] [(3, 62, 62)] [] []) σ0 (r.1)) := by
  unfold fX12_tileDot_6_body
  exact zpc_if (fun _ => zpc_some h) (fun _ => zpc_bi (fD_fX12_video8 h) (fun σ1 v2 hσ1 => zpc_bv (fun v3 _ => zpc_bv (fun v4 _ => hk6 _ _ _ _ _ _ hσ1))))
theorem fD_fX12_tileDot_6 {σ0 : zSt} : ∀ (n : Nat) (y0 : zSt) (y1 : Int32) (y2 : Int32) (y3 : Int32) (y4 : Int32) (y5 : Int32), (zQ [22, 23, 24, 25, 9] [(3, 62, 62)] [] []) σ0 y0 → zpc (fX12_tileDot_6 n y0 y1 y2 y3 y4 y5) (fun r => (zQ [22, 23, 24, 25, 9] [(3, 62, 62)] [] []) σ0 (r.1)) := by
  intro n
  induction n with
  | zero => intro y0 y1 y2 y3 y4 y5 h; exact zpc_none
  | succ n ih => intro y0 y1 y2 y3 y4 y5 h; exact fD_fX12_tileDot_6_body ih h
theorem fD_fX12_tileDot {σ0 : zSt} {σ : zSt} {x1 : Int32} {x2 : Int32} {x3 : Int32} (h : (zQ [22, 23, 24, 25, 9] [(3, 62, 62)] [] []) σ0 σ) : zpc (fX12_tileDot σ x1 x2 x3) (fun r => (zQ [22, 23, 24, 25, 9] [(3, 62, 62)] [] []) σ0 (r.1)) := by
  unfold fX12_tileDot
  exact fD_fX12_tileDot_6 _ _ _ _ _ _ _ h
theorem fD_fX12_tile_302 {σ0 : zSt} {σ : zSt} {s0 : Int32} {s1 : Int32} (h : (zQ [22, 23, 24, 25, 9] [(3, 62, 62)] [] []) σ0 σ) : zpc (fX12_tile_302 σ s0 s1) (fun r => (zQ [22, 23, 24, 25, 9] [(3, 62, 62)] [] []) σ0 (r)) := by
  unfold fX12_tile_302
  exact zpc_ck (zpc_bs (zQ.wi h rfl) (fun σ1 hσ1 => zpc_some hσ1))
theorem fD_fX12_tile_301 {σ0 : zSt} {σ : zSt} {s0 : Int32} (h : (zQ [22, 23, 24, 25, 9] [(3, 62, 62)] [] []) σ0 σ) : zpc (fX12_tile_301 σ s0) (fun r => (zQ [22, 23, 24, 25, 9] [(3, 62, 62)] [] []) σ0 (r)) := by
  unfold fX12_tile_301
  exact fD_fX12_tile_302 h
theorem fD_fX12_tile_276 {σ0 : zSt} {σ : zSt} {x2 : Int32} {x9 : Int32} {x12 : Int32} {s0 : Int32} {s1 : Int32} {s2 : Int32} (h : (zQ [22, 23, 24, 25, 9] [(3, 62, 62)] [] []) σ0 σ) : zpc (fX12_tile_276 σ x2 x9 x12 s0 s1 s2) (fun r => (zQ [22, 23, 24, 25, 9] [(3, 62, 62)] [] []) σ0 (r)) := by
  unfold fX12_tile_276
  exact zpc_ck (zpc_bs (zQ.wi h rfl) (fun σ2 hσ2 => zpc_if (fun _ => fD_fX12_tile_301 hσ2) (fun _ => zpc_if (fun _ => fD_fX12_tile_301 hσ2) (fun _ => fD_fX12_tile_302 hσ2))))
theorem fD_fX12_tile_236 {σ0 : zSt} {σ : zSt} {x2 : Int32} {x9 : Int32} {x10 : Int32} {s0 : Int32} (h : (zQ [22, 23, 24, 25, 9] [(3, 62, 62)] [] []) σ0 σ) : zpc (fX12_tile_236 σ x2 x9 x10 s0) (fun r => (zQ [22, 23, 24, 25, 9] [(3, 62, 62)] [] []) σ0 (r)) := by
  unfold fX12_tile_236
  exact zpc_bi (fD_fX12_tileDot h) (fun σ3 v4 hσ3 => zpc_if (fun _ => fD_fX12_tile_276 hσ3) (fun _ => fD_fX12_tile_276 hσ3))
theorem fD_fX12_tile_209 {σ0 : zSt} {σ : zSt} {x2 : Int32} {x7 : Int32} {x9 : Int32} {s0 : Int32} (h : (zQ [22, 23, 24, 25, 9] [(3, 62, 62)] [] []) σ0 σ) : zpc (fX12_tile_209 σ x2 x7 x9 s0) (fun r => (zQ [22, 23, 24, 25, 9] [(3, 62, 62)] [] []) σ0 (r)) := by
  unfold fX12_tile_209
  exact zpc_if (fun _ => zpc_ck (fD_fX12_tile_236 h)) (fun _ => zpc_ck (fD_fX12_tile_236 h))
theorem fD_fX12_tile_141 {σ0 : zSt} {σ : zSt} {x2 : Int32} {x4 : Int32} {x6 : Int32} {s0 : Int32} (h : (zQ [22, 23, 24, 25, 9] [(3, 62, 62)] [] []) σ0 σ) : zpc (fX12_tile_141 σ x2 x4 x6 s0) (fun r => (zQ [22, 23, 24, 25, 9] [(3, 62, 62)] [] []) σ0 (r)) := by
  unfold fX12_tile_141
  exact zpc_ck (zpc_ck (zpc_bv (fun v5 _ => zpc_bi (fD_fX12_video8 h) (fun σ6 v7 hσ6 => zpc_bi (fD_fX12_video8 hσ6) (fun σ8 v9 hσ8 => zpc_bv (fun v10 _ => zpc_if (fun _ => zpc_ck (fD_fX12_tile_209 hσ8)) (fun _ => zpc_ck (fD_fX12_tile_209 hσ8))))))))
theorem fD_fX12_tile_140 {σ0 : zSt} {σ : zSt} {x2 : Int32} {x4 : Int32} {x6 : Int32} {s0 : Int32} {s1 : Int32} (h : (zQ [22, 23, 24, 25, 9] [(3, 62, 62)] [] []) σ0 σ) : zpc (fX12_tile_140 σ x2 x4 x6 s0 s1) (fun r => (zQ [22, 23, 24, 25, 9] [(3, 62, 62)] [] []) σ0 (r)) := by
  unfold fX12_tile_140
  exact zpc_ck (fD_fX12_tile_141 h)
theorem fD_fX12_tile_118 {σ0 : zSt} {σ : zSt} {x1 : Int32} {x2 : Int32} {x3 : Int32} {x4 : Int32} {x6 : Int32} (h : (zQ [22, 23, 24, 25, 9] [(3, 62, 62)] [] []) σ0 σ) : zpc (fX12_tile_118 σ x1 x2 x3 x4 x6) (fun r => (zQ [22, 23, 24, 25, 9] [(3, 62, 62)] [] []) σ0 (r)) := by
  unfold fX12_tile_118
  exact zpc_ck (zpc_if (fun _ => fD_fX12_tile_140 h) (fun _ => fD_fX12_tile_140 h))
theorem fD_fX12_tile_84 {σ0 : zSt} {σ : zSt} {x1 : Int32} {x2 : Int32} {x3 : Int32} {x4 : Int32} {s0 : Int32} (h : (zQ [22, 23, 24, 25, 9] [(3, 62, 62)] [] []) σ0 σ) : zpc (fX12_tile_84 σ x1 x2 x3 x4 s0) (fun r => (zQ [22, 23, 24, 25, 9] [(3, 62, 62)] [] []) σ0 (r)) := by
  unfold fX12_tile_84
  exact zpc_bv (fun v11 _ => zpc_if (fun _ => fD_fX12_tile_118 h) (fun _ => zpc_bi (fD_fX12_bit h) (fun σ12 v13 hσ12 => zpc_if (fun _ => fD_fX12_tile_141 hσ12) (fun _ => fD_fX12_tile_118 hσ12))))
theorem fD_fX12_tile_78 {σ0 : zSt} {σ : zSt} {x1 : Int32} {x2 : Int32} {x3 : Int32} {x4 : Int32} (h : (zQ [22, 23, 24, 25, 9] [(3, 62, 62)] [] []) σ0 σ) : zpc (fX12_tile_78 σ x1 x2 x3 x4) (fun r => (zQ [22, 23, 24, 25, 9] [(3, 62, 62)] [] []) σ0 (r)) := by
  unfold fX12_tile_78
  exact zpc_bi (fD_fX12_reg h) (fun σ14 v15 hσ14 => fD_fX12_tile_84 hσ14)
theorem fD_fX12_tile_55 {σ0 : zSt} {σ : zSt} {x1 : Int32} {x2 : Int32} {x3 : Int32} {s0 : Int32} (h : (zQ [22, 23, 24, 25, 9] [(3, 62, 62)] [] []) σ0 σ) : zpc (fX12_tile_55 σ x1 x2 x3 s0) (fun r => (zQ [22, 23, 24, 25, 9] [(3, 62, 62)] [] []) σ0 (r)) := by
  unfold fX12_tile_55
  exact zpc_if (fun _ => fD_fX12_tile_78 h) (fun _ => zpc_bi (fD_fX12_bit h) (fun σ16 v17 hσ16 => zpc_if (fun _ => fD_fX12_tile_84 hσ16) (fun _ => fD_fX12_tile_78 hσ16)))
theorem fD_fX12_tile_15 {σ0 : zSt} {σ : zSt} {x1 : Int32} {x2 : Int32} {s0 : Int32} (h : (zQ [22, 23, 24, 25, 9] [(3, 62, 62)] [] []) σ0 σ) : zpc (fX12_tile_15 σ x1 x2 s0) (fun r => (zQ [22, 23, 24, 25, 9] [(3, 62, 62)] [] []) σ0 (r)) := by
  unfold fX12_tile_15
  exact zpc_if (fun _ => zpc_bi (fD_fX12_reg h) (fun σ18 v19 hσ18 => zpc_ck (zpc_ck (fD_fX12_tile_55 hσ18)))) (fun _ => zpc_bi (fD_fX12_reg h) (fun σ20 v21 hσ20 => zpc_ck (fD_fX12_tile_55 hσ20)))
theorem fD_fX12_tile {σ0 : zSt} {σ : zSt} {x1 : Int32} {x2 : Int32} (h : (zQ [22, 23, 24, 25, 9] [(3, 62, 62)] [] []) σ0 σ) : zpc (fX12_tile σ x1 x2) (fun r => (zQ [22, 23, 24, 25, 9] [(3, 62, 62)] [] []) σ0 (r)) := by
  unfold fX12_tile
  exact zpc_bi (fD_fX12_height h) (fun σ22 v23 hσ22 => zpc_if (fun _ => fD_fX12_tile_15 hσ22) (fun _ => fD_fX12_tile_15 hσ22))
theorem fD_fX12_sprites_349 {σ0 : zSt} {k73 : zSt → Int32 → Int32 → Int32 → Int32 → Int32 → Int32 → Int32 → Option (zSt)} (hk73 : ∀ (y0 : zSt) (y1 : Int32) (y2 : Int32) (y3 : Int32) (y4 : Int32) (y5 : Int32) (y6 : Int32) (y7 : Int32), (zQ [22, 23, 24, 25, 9] [(3, 62, 62)] [] []) σ0 y0 → zpc (k73 y0 y1 y2 y3 y4 y5 y6 y7) (fun r => (zQ [22, 23, 24, 25, 9] [(3, 62, 62)] [] []) σ0 (r))) {σ : zSt} {x1 : Int32} {x2 : Int32} {x3 : Int32} {x4 : Int32} {x5 : Int32} {x6 : Int32} {x7 : Int32} (h : (zQ [22, 23, 24, 25, 9] [(3, 62, 62)] [] []) σ0 σ) : zpc (fX12_sprites_349 k73 σ x1 x2 x3 x4 x5 x6 x7) (fun r => (zQ [22, 23, 24, 25, 9] [(3, 62, 62)] [] []) σ0 (r)) := by
  unfold fX12_sprites_349
  exact zpc_bv (fun v1 _ => hk73 _ _ _ _ _ _ _ _ h)
theorem fD_fX12_sprites_343 {σ0 : zSt} {k73 : zSt → Int32 → Int32 → Int32 → Int32 → Int32 → Int32 → Int32 → Option (zSt)} (hk73 : ∀ (y0 : zSt) (y1 : Int32) (y2 : Int32) (y3 : Int32) (y4 : Int32) (y5 : Int32) (y6 : Int32) (y7 : Int32), (zQ [22, 23, 24, 25, 9] [(3, 62, 62)] [] []) σ0 y0 → zpc (k73 y0 y1 y2 y3 y4 y5 y6 y7) (fun r => (zQ [22, 23, 24, 25, 9] [(3, 62, 62)] [] []) σ0 (r))) {k250 : zSt → Int32 → Int32 → Int32 → Int32 → Int32 → Int32 → Int32 → Int32 → Int32 → Int32 → Int32 → Option (zSt)} (hk250 : ∀ (y0 : zSt) (y1 : Int32) (y2 : Int32) (y3 : Int32) (y4 : Int32) (y5 : Int32) (y6 : Int32) (y7 : Int32) (y8 : Int32) (y9 : Int32) (y10 : Int32) (y11 : Int32), (zQ [22, 23, 24, 25, 9] [(3, 62, 62)] [] []) σ0 y0 → zpc (k250 y0 y1 y2 y3 y4 y5 y6 y7 y8 y9 y10 y11) (fun r => (zQ [22, 23, 24, 25, 9] [(3, 62, 62)] [] []) σ0 (r))) {σ : zSt} {x1 : Int32} {x2 : Int32} {x3 : Int32} {x4 : Int32} {x5 : Int32} {x6 : Int32} {x7 : Int32} {x9 : Int32} {x10 : Int32} {x11 : Int32} {x12 : Int32} (h : (zQ [22, 23, 24, 25, 9] [(3, 62, 62)] [] []) σ0 σ) : zpc (fX12_sprites_343 k73 k250 σ x1 x2 x3 x4 x5 x6 x7 x9 x10 x11 x12) (fun r => (zQ [22, 23, 24, 25, 9] [(3, 62, 62)] [] []) σ0 (r)) := by
  unfold fX12_sprites_343
  exact zpc_bv (fun v2 _ => hk250 _ _ _ _ _ _ _ _ _ _ _ _ h)
theorem fD_fX12_sprites_250_body {σ0 : zSt} {k73 : zSt → Int32 → Int32 → Int32 → Int32 → Int32 → Int32 → Int32 → Option (zSt)} (hk73 : ∀ (y0 : zSt) (y1 : Int32) (y2 : Int32) (y3 : Int32) (y4 : Int32) (y5 : Int32) (y6 : Int32) (y7 : Int32), (zQ [22, 23, 24, 25, 9] [(3, 62, 62)] [] []) σ0 y0 → zpc (k73 y0 y1 y2 y3 y4 y5 y6 y7) (fun r => (zQ [22, 23, 24, 25, 9] [(3, 62, 62)] [] []) σ0 (r))) {k250 : zSt → Int32 → Int32 → Int32 → Int32 → Int32 → Int32 → Int32 → Int32 → Int32 → Int32 → Int32 → Option (zSt)} (hk250 : ∀ (y0 : zSt) (y1 : Int32) (y2 : Int32) (y3 : Int32) (y4 : Int32) (y5 : Int32) (y6 : Int32) (y7 : Int32) (y8 : Int32) (y9 : Int32) (y10 : Int32) (y11 : Int32), (zQ [22, 23, 24, 25, 9] [(3, 62, 62)] [] []) σ0 y0 → zpc (k250 y0 y1 y2 y3 y4 y5 y6 y7 y8 y9 y10 y11) (fun r => (zQ [22, 23, 24, 25, 9] [(3, 62, 62)] [] []) σ0 (r))) {σ : zSt} {x1 : Int32} {x2 : Int32} {x3 : Int32} {x4 : Int32} {x5 : Int32} {x6 : Int32} {x7 : Int32} {x9 : Int32} {x10 : Int32} {x11 : Int32} {x12 : Int32} (h : (zQ [22, 23, 24, 25, 9] [(3, 62, 62)] [] []) σ0 σ) : zpc (fX12_sprites_250_body k73 k250 σ x1 x2 x3 x4 x5 x6 x7 x9 x10 x11 x12) (fun r => (zQ [22, 23, 24, 25, 9] [(3, 62, 62)] [] []) σ0 (r)) := by
  unfold fX12_sprites_250_body
  exact zpc_if (fun _ => fD_fX12_sprites_349 hk73 h) (fun _ => zpc_ck (zpc_ck (zpc_ck (zpc_bi (fD_fX12_tileDot h) (fun σ3 v4 hσ3 => zpc_bv (fun v5 _ => zpc_if (fun _ => fD_fX12_sprites_343 hk73 hk250 hσ3) (fun _ => zpc_if (fun _ => fD_fX12_sprites_343 hk73 hk250 hσ3) (fun _ => zpc_if (fun _ => zpc_ck (zpc_if (fun _ => zpc_ck (zpc_bs (zQ.wi hσ3 rfl) (fun σ6 hσ6 => fD_fX12_sprites_343 hk73 hk250 hσ6))) (fun _ => zpc_ck (zpc_ck (zpc_bs (zQ.wi hσ3 rfl) (fun σ7 hσ7 => fD_fX12_sprites_343 hk73 hk250 hσ7)))))) (fun _ => fD_fX12_sprites_343 hk73 hk250 hσ3)))))))))
theorem fD_fX12_sprites_250 {σ0 : zSt} {k73 : zSt → Int32 → Int32 → Int32 → Int32 → Int32 → Int32 → Int32 → Option (zSt)} (hk73 : ∀ (y0 : zSt) (y1 : Int32) (y2 : Int32) (y3 : Int32) (y4 : Int32) (y5 : Int32) (y6 : Int32) (y7 : Int32), (zQ [22, 23, 24, 25, 9] [(3, 62, 62)] [] []) σ0 y0 → zpc (k73 y0 y1 y2 y3 y4 y5 y6 y7) (fun r => (zQ [22, 23, 24, 25, 9] [(3, 62, 62)] [] []) σ0 (r))) : ∀ (n : Nat) (y0 : zSt) (y1 : Int32) (y2 : Int32) (y3 : Int32) (y4 : Int32) (y5 : Int32) (y6 : Int32) (y7 : Int32) (y8 : Int32) (y9 : Int32) (y10 : Int32) (y11 : Int32), (zQ [22, 23, 24, 25, 9] [(3, 62, 62)] [] []) σ0 y0 → zpc (fX12_sprites_250 k73 n y0 y1 y2 y3 y4 y5 y6 y7 y8 y9 y10 y11) (fun r => (zQ [22, 23, 24, 25, 9] [(3, 62, 62)] [] []) σ0 (r)) := by
  intro n
  induction n with
  | zero => intro y0 y1 y2 y3 y4 y5 y6 y7 y8 y9 y10 y11 h; exact zpc_none
  | succ n ih => intro y0 y1 y2 y3 y4 y5 y6 y7 y8 y9 y10 y11 h; exact fD_fX12_sprites_250_body hk73 ih h
theorem fD_fX12_sprites_244 {σ0 : zSt} {k73 : zSt → Int32 → Int32 → Int32 → Int32 → Int32 → Int32 → Int32 → Option (zSt)} (hk73 : ∀ (y0 : zSt) (y1 : Int32) (y2 : Int32) (y3 : Int32) (y4 : Int32) (y5 : Int32) (y6 : Int32) (y7 : Int32), (zQ [22, 23, 24, 25, 9] [(3, 62, 62)] [] []) σ0 y0 → zpc (k73 y0 y1 y2 y3 y4 y5 y6 y7) (fun r => (zQ [22, 23, 24, 25, 9] [(3, 62, 62)] [] []) σ0 (r))) {σ : zSt} {x1 : Int32} {x2 : Int32} {x3 : Int32} {x4 : Int32} {x5 : Int32} {x6 : Int32} {x7 : Int32} {x9 : Int32} {x10 : Int32} {s0 : Int32} {s1 : Int32} (h : (zQ [22, 23, 24, 25, 9] [(3, 62, 62)] [] []) σ0 σ) : zpc (fX12_sprites_244 k73 σ x1 x2 x3 x4 x5 x6 x7 x9 x10 s0 s1) (fun r => (zQ [22, 23, 24, 25, 9] [(3, 62, 62)] [] []) σ0 (r)) := by
  unfold fX12_sprites_244
  exact zpc_bv (fun v8 _ => fD_fX12_sprites_250 hk73 _ _ _ _ _ _ _ _ _ _ _ _ _ h)
theorem fD_fX12_sprites_212 {σ0 : zSt} {k73 : zSt → Int32 → Int32 → Int32 → Int32 → Int32 → Int32 → Int32 → Option (zSt)} (hk73 : ∀ (y0 : zSt) (y1 : Int32) (y2 : Int32) (y3 : Int32) (y4 : Int32) (y5 : Int32) (y6 : Int32) (y7 : Int32), (zQ [22, 23, 24, 25, 9] [(3, 62, 62)] [] []) σ0 y0 → zpc (k73 y0 y1 y2 y3 y4 y5 y6 y7) (fun r => (zQ [22, 23, 24, 25, 9] [(3, 62, 62)] [] []) σ0 (r))) {σ : zSt} {x1 : Int32} {x2 : Int32} {x3 : Int32} {x4 : Int32} {x5 : Int32} {x6 : Int32} {x7 : Int32} {x9 : Int32} {s0 : Int32} (h : (zQ [22, 23, 24, 25, 9] [(3, 62, 62)] [] []) σ0 σ) : zpc (fX12_sprites_212 k73 σ x1 x2 x3 x4 x5 x6 x7 x9 s0) (fun r => (zQ [22, 23, 24, 25, 9] [(3, 62, 62)] [] []) σ0 (r)) := by
  unfold fX12_sprites_212
  exact zpc_bi (fD_fX12_video8 h) (fun σ9 v10 hσ9 => zpc_bi (fD_fX12_bit hσ9) (fun σ11 v12 hσ11 => zpc_if (fun _ => fD_fX12_sprites_244 hk73 hσ11) (fun _ => fD_fX12_sprites_244 hk73 hσ11)))
theorem fD_fX12_sprites_183 {σ0 : zSt} {k73 : zSt → Int32 → Int32 → Int32 → Int32 → Int32 → Int32 → Int32 → Option (zSt)} (hk73 : ∀ (y0 : zSt) (y1 : Int32) (y2 : Int32) (y3 : Int32) (y4 : Int32) (y5 : Int32) (y6 : Int32) (y7 : Int32), (zQ [22, 23, 24, 25, 9] [(3, 62, 62)] [] []) σ0 y0 → zpc (k73 y0 y1 y2 y3 y4 y5 y6 y7) (fun r => (zQ [22, 23, 24, 25, 9] [(3, 62, 62)] [] []) σ0 (r))) {σ : zSt} {x1 : Int32} {x2 : Int32} {x3 : Int32} {x4 : Int32} {x5 : Int32} {x6 : Int32} {x7 : Int32} {x9 : Int32} {s0 : Int32} {s1 : Int32} (h : (zQ [22, 23, 24, 25, 9] [(3, 62, 62)] [] []) σ0 σ) : zpc (fX12_sprites_183 k73 σ x1 x2 x3 x4 x5 x6 x7 x9 s0 s1) (fun r => (zQ [22, 23, 24, 25, 9] [(3, 62, 62)] [] []) σ0 (r)) := by
  unfold fX12_sprites_183
  exact zpc_bv (fun v13 _ => zpc_if (fun _ => zpc_ck (zpc_ck (fD_fX12_sprites_212 hk73 h))) (fun _ => fD_fX12_sprites_212 hk73 h))
theorem fD_fX12_sprites_104 {σ0 : zSt} {k73 : zSt → Int32 → Int32 → Int32 → Int32 → Int32 → Int32 → Int32 → Option (zSt)} (hk73 : ∀ (y0 : zSt) (y1 : Int32) (y2 : Int32) (y3 : Int32) (y4 : Int32) (y5 : Int32) (y6 : Int32) (y7 : Int32), (zQ [22, 23, 24, 25, 9] [(3, 62, 62)] [] []) σ0 y0 → zpc (k73 y0 y1 y2 y3 y4 y5 y6 y7) (fun r => (zQ [22, 23, 24, 25, 9] [(3, 62, 62)] [] []) σ0 (r))) {σ : zSt} {x1 : Int32} {x2 : Int32} {x3 : Int32} {x4 : Int32} {x5 : Int32} {x6 : Int32} {x7 : Int32} {x8 : Int32} (h : (zQ [22, 23, 24, 25, 9] [(3, 62, 62)] [] []) σ0 σ) : zpc (fX12_sprites_104 k73 σ x1 x2 x3 x4 x5 x6 x7 x8) (fun r => (zQ [22, 23, 24, 25, 9] [(3, 62, 62)] [] []) σ0 (r)) := by
  unfold fX12_sprites_104
  exact zpc_bv (fun v14 _ => zpc_if (fun _ => zpc_if (fun _ => zpc_ck (zpc_ck (zpc_bs (zQ.wi h rfl) (fun σ20 hσ20 => zpc_some hσ20)))) (fun _ => zpc_bv (fun v15 _ => zpc_bi (fD_fX12_video8 h) (fun σ16 v17 hσ16 => zpc_bi (fD_fX12_bit hσ16) (fun σ18 v19 hσ18 => zpc_if (fun _ => fD_fX12_sprites_183 hk73 hσ18) (fun _ => fD_fX12_sprites_183 hk73 hσ18)))))) (fun _ => fD_fX12_sprites_349 hk73 h))
theorem fD_fX12_sprites_73_body {σ0 : zSt} {k73 : zSt → Int32 → Int32 → Int32 → Int32 → Int32 → Int32 → Int32 → Option (zSt)} (hk73 : ∀ (y0 : zSt) (y1 : Int32) (y2 : Int32) (y3 : Int32) (y4 : Int32) (y5 : Int32) (y6 : Int32) (y7 : Int32), (zQ [22, 23, 24, 25, 9] [(3, 62, 62)] [] []) σ0 y0 → zpc (k73 y0 y1 y2 y3 y4 y5 y6 y7) (fun r => (zQ [22, 23, 24, 25, 9] [(3, 62, 62)] [] []) σ0 (r))) {σ : zSt} {x1 : Int32} {x2 : Int32} {x3 : Int32} {x4 : Int32} {x5 : Int32} {x6 : Int32} {x7 : Int32} (h : (zQ [22, 23, 24, 25, 9] [(3, 62, 62)] [] []) σ0 σ) : zpc (fX12_sprites_73_body k73 σ x1 x2 x3 x4 x5 x6 x7) (fun r => (zQ [22, 23, 24, 25, 9] [(3, 62, 62)] [] []) σ0 (r)) := by
  unfold fX12_sprites_73_body
  exact zpc_if (fun _ => zpc_some h) (fun _ => zpc_bi (fD_fX12_video8 h) (fun σ21 v22 hσ21 => zpc_if (fun _ => fD_fX12_sprites_104 hk73 hσ21) (fun _ => zpc_if (fun _ => zpc_some hσ21) (fun _ => fD_fX12_sprites_104 hk73 hσ21))))
theorem fD_fX12_sprites_73 {σ0 : zSt} : ∀ (n : Nat) (y0 : zSt) (y1 : Int32) (y2 : Int32) (y3 : Int32) (y4 : Int32) (y5 : Int32) (y6 : Int32) (y7 : Int32), (zQ [22, 23, 24, 25, 9] [(3, 62, 62)] [] []) σ0 y0 → zpc (fX12_sprites_73 n y0 y1 y2 y3 y4 y5 y6 y7) (fun r => (zQ [22, 23, 24, 25, 9] [(3, 62, 62)] [] []) σ0 (r)) := by
  intro n
  induction n with
  | zero => intro y0 y1 y2 y3 y4 y5 y6 y7 h; exact zpc_none
  | succ n ih => intro y0 y1 y2 y3 y4 y5 y6 y7 h; exact fD_fX12_sprites_73_body ih h
theorem fD_fX12_sprites_68 {σ0 : zSt} {σ : zSt} {x1 : Int32} {x2 : Int32} {x3 : Int32} {x4 : Int32} {x5 : Int32} {s0 : Int32} (h : (zQ [22, 23, 24, 25, 9] [(3, 62, 62)] [] []) σ0 σ) : zpc (fX12_sprites_68 σ x1 x2 x3 x4 x5 s0) (fun r => (zQ [22, 23, 24, 25, 9] [(3, 62, 62)] [] []) σ0 (r)) := by
  unfold fX12_sprites_68
  exact fD_fX12_sprites_73 _ _ _ _ _ _ _ _ _ h
theorem fD_fX12_sprites_48 {σ0 : zSt} {σ : zSt} {x1 : Int32} {x2 : Int32} {x3 : Int32} {s0 : Int32} (h : (zQ [22, 23, 24, 25, 9] [(3, 62, 62)] [] []) σ0 σ) : zpc (fX12_sprites_48 σ x1 x2 x3 s0) (fun r => (zQ [22, 23, 24, 25, 9] [(3, 62, 62)] [] []) σ0 (r)) := by
  unfold fX12_sprites_48
  exact zpc_bi (fD_fX12_height h) (fun σ23 v24 hσ23 => zpc_if (fun _ => fD_fX12_sprites_68 hσ23) (fun _ => fD_fX12_sprites_68 hσ23))
theorem fD_fX12_sprites_30 {σ0 : zSt} {σ : zSt} {x1 : Int32} {x2 : Int32} {s0 : Int32} (h : (zQ [22, 23, 24, 25, 9] [(3, 62, 62)] [] []) σ0 σ) : zpc (fX12_sprites_30 σ x1 x2 s0) (fun r => (zQ [22, 23, 24, 25, 9] [(3, 62, 62)] [] []) σ0 (r)) := by
  unfold fX12_sprites_30
  exact zpc_bi (fD_fX12_bit h) (fun σ25 v26 hσ25 => zpc_if (fun _ => fD_fX12_sprites_48 hσ25) (fun _ => fD_fX12_sprites_48 hσ25))
theorem fD_fX12_sprites {σ0 : zSt} {σ : zSt} {x1 : Int32} (h : (zQ [22, 23, 24, 25, 9] [(3, 62, 62)] [] []) σ0 σ) : zpc (fX12_sprites σ x1) (fun r => (zQ [22, 23, 24, 25, 9] [(3, 62, 62)] [] []) σ0 (r)) := by
  unfold fX12_sprites
  exact zpc_bi (fD_fX12_reg h) (fun σ27 v28 hσ27 => zpc_ck (zpc_ck (zpc_bv (fun v29 _ => zpc_bi (fD_fX12_bit hσ27) (fun σ30 v31 hσ30 => zpc_if (fun _ => fD_fX12_sprites_30 hσ30) (fun _ => fD_fX12_sprites_30 hσ30))))))
theorem fD_fX12_colour_62 {σ0 : zSt} {σ : zSt} {s0 : Int32} (h : (zQ [22, 23, 24, 25, 9] [(3, 62, 62)] [] []) σ0 σ) : zpc (fX12_colour_62 σ s0) (fun r => (zQ [22, 23, 24, 25, 9] [(3, 62, 62)] [] []) σ0 (r.1)) := by
  unfold fX12_colour_62
  exact zpc_some h
theorem fD_fX12_colour_252 {σ0 : zSt} {σ : zSt} {s0 : Int32} (h : (zQ [22, 23, 24, 25, 9] [(3, 62, 62)] [] []) σ0 σ) : zpc (fX12_colour_252 σ s0) (fun r => (zQ [22, 23, 24, 25, 9] [(3, 62, 62)] [] []) σ0 (r.1)) := by
  unfold fX12_colour_252
  exact zpc_some h
theorem fD_fX12_colour_217 {σ0 : zSt} {σ : zSt} {x2 : Int32} (h : (zQ [22, 23, 24, 25, 9] [(3, 62, 62)] [] []) σ0 σ) : zpc (fX12_colour_217 σ x2) (fun r => (zQ [22, 23, 24, 25, 9] [(3, 62, 62)] [] []) σ0 (r.1)) := by
  unfold fX12_colour_217
  exact zpc_if (fun _ => zpc_ck (zpc_ck (zpc_ck (zpc_ck (fD_fX12_colour_252 h))))) (fun _ => fD_fX12_colour_252 h)
theorem fD_fX12_colour {σ0 : zSt} {σ : zSt} {x1 : Int32} (h : (zQ [22, 23, 24, 25, 9] [(3, 62, 62)] [] []) σ0 σ) : zpc (fX12_colour σ x1) (fun r => (zQ [22, 23, 24, 25, 9] [(3, 62, 62)] [] []) σ0 (r.1)) := by
  unfold fX12_colour
  exact zpc_bi (fD_fX12_mode h) (fun σ1 v2 hσ1 => zpc_if (fun _ => zpc_if (fun _ => zpc_ck (zpc_ck (zpc_ck (fD_fX12_colour_62 hσ1)))) (fun _ => zpc_ck (fD_fX12_colour_62 hσ1))) (fun _ => zpc_if (fun _ => fD_fX12_colour_217 hσ1) (fun _ => zpc_if (fun _ => fD_fX12_colour_217 hσ1) (fun _ => zpc_if (fun _ => fD_fX12_colour_217 hσ1) (fun _ => zpc_if (fun _ => fD_fX12_colour_217 hσ1) (fun _ => zpc_if (fun _ => fD_fX12_colour_217 hσ1) (fun _ => zpc_if (fun _ => fD_fX12_colour_217 hσ1) (fun _ => zpc_if (fun _ => fD_fX12_colour_217 hσ1) (fun _ => zpc_if (fun _ => fD_fX12_colour_217 hσ1) (fun _ => zpc_if (fun _ => fD_fX12_colour_217 hσ1) (fun _ => zpc_if (fun _ => fD_fX12_colour_217 hσ1) (fun _ => zpc_if (fun _ => fD_fX12_colour_217 hσ1) (fun _ => zpc_if (fun _ => fD_fX12_colour_217 hσ1) (fun _ => zpc_if (fun _ => fD_fX12_colour_217 hσ1) (fun _ => zpc_if (fun _ => fD_fX12_colour_217 hσ1) (fun _ => fD_fX12_colour_217 hσ1))))))))))))))))
theorem fD_fX12_old_48 {σ0 : zSt} {σ : zSt} (h : (zQ [22, 23, 24, 25, 9] [(3, 62, 62)] [] []) σ0 σ) : zpc (fX12_old_48 σ) (fun r => (zQ [22, 23, 24, 25, 9] [(3, 62, 62)] [] []) σ0 (r.1)) := by
  unfold fX12_old_48
  exact zpc_some h
theorem fD_fX12_old_131 {σ0 : zSt} {σ : zSt} {s0 : Int32} (h : (zQ [22, 23, 24, 25, 9] [(3, 62, 62)] [] []) σ0 σ) : zpc (fX12_old_131 σ s0) (fun r => (zQ [22, 23, 24, 25, 9] [(3, 62, 62)] [] []) σ0 (r.1)) := by
  unfold fX12_old_131
  exact zpc_some h
theorem fD_fX12_old_209 {σ0 : zSt} {σ : zSt} {s0 : Int32} (h : (zQ [22, 23, 24, 25, 9] [(3, 62, 62)] [] []) σ0 σ) : zpc (fX12_old_209 σ s0) (fun r => (zQ [22, 23, 24, 25, 9] [(3, 62, 62)] [] []) σ0 (r.1)) := by
  unfold fX12_old_209
  exact zpc_some h
theorem fD_fX12_old_395 {σ0 : zSt} {σ : zSt} {s0 : Int32} (h : (zQ [22, 23, 24, 25, 9] [(3, 62, 62)] [] []) σ0 σ) : zpc (fX12_old_395 σ s0) (fun r => (zQ [22, 23, 24, 25, 9] [(3, 62, 62)] [] []) σ0 (r.1)) := by
  unfold fX12_old_395
  exact zpc_some h
theorem fD_fX12_old_367 {σ0 : zSt} {σ : zSt} {x2 : Int32} {x6 : Int32} {x7 : Int32} (h : (zQ [22, 23, 24, 25, 9] [(3, 62, 62)] [] []) σ0 σ) : zpc (fX12_old_367 σ x2 x6 x7) (fun r => (zQ [22, 23, 24, 25, 9] [(3, 62, 62)] [] []) σ0 (r.1)) := by
  unfold fX12_old_367
  exact zpc_ck (zpc_if (fun _ => fD_fX12_old_395 h) (fun _ => fD_fX12_old_395 h))
theorem fD_fX12_old {σ0 : zSt} {σ : zSt} {x1 : Int32} {x2 : Int32} (h : (zQ [22, 23, 24, 25, 9] [(3, 62, 62)] [] []) σ0 σ) : zpc (fX12_old σ x1 x2) (fun r => (zQ [22, 23, 24, 25, 9] [(3, 62, 62)] [] []) σ0 (r.1)) := by
  unfold fX12_old
  exact zpc_bi (fD_fX12_reg h) (fun σ1 v2 hσ1 => zpc_ck (zpc_bv (fun v3 _ => zpc_bi (fD_fX12_reg hσ1) (fun σ4 v5 hσ4 => zpc_ck (zpc_bv (fun v6 _ => zpc_bi (fD_fX12_mode hσ4) (fun σ7 v8 hσ7 => zpc_if (fun _ => zpc_if (fun _ => fD_fX12_old_48 hσ7) (fun _ => zpc_if (fun _ => zpc_ck (zpc_ck (zpc_bi (fD_fX12_video8 hσ7) (fun σ38 v39 hσ38 => zpc_ck (zpc_bi (fD_fX12_video8 hσ38) (fun σ40 v41 hσ40 => zpc_ck (zpc_bv (fun v42 _ => zpc_if (fun _ => zpc_bi (fD_fX12_reg hσ40) (fun σ45 v46 hσ45 => fD_fX12_old_131 hσ45)) (fun _ => zpc_bi (fD_fX12_reg hσ40) (fun σ43 v44 hσ43 => fD_fX12_old_131 hσ43)))))))))) (fun _ => fD_fX12_old_48 hσ7))) (fun _ => zpc_ck (zpc_ck (zpc_bi (fD_fX12_video8 hσ7) (fun σ9 v10 hσ9 => zpc_bi (fD_fX12_mode hσ9) (fun σ11 v12 hσ11 => zpc_if (fun _ => zpc_ck (zpc_ck (zpc_ck (zpc_ck (zpc_bi (fD_fX12_video8 hσ11) (fun σ36 v37 hσ36 => zpc_ck (zpc_if (fun _ => fD_fX12_old_209 hσ36) (fun _ => fD_fX12_old_209 hσ36)))))))) (fun _ => zpc_bi (fD_fX12_mode hσ11) (fun σ13 v14 hσ13 => zpc_if (fun _ => zpc_ck (zpc_bi (fD_fX12_video8 hσ13) (fun σ30 v31 hσ30 => zpc_bi (fD_fX12_reg hσ30) (fun σ32 v33 hσ32 => zpc_ck (zpc_bi (fD_fX12_video8 hσ32) (fun σ34 v35 hσ34 => fD_fX12_old_367 hσ34)))))) (fun _ => zpc_ck (zpc_bv (fun v15 _ => zpc_bi (fD_fX12_reg hσ13) (fun σ16 v17 hσ16 => zpc_ck (zpc_bv (fun v18 _ => zpc_bi (fD_fX12_reg hσ16) (fun σ19 v20 hσ19 => zpc_ck (zpc_bv (fun v21 _ => zpc_bi (fD_fX12_bit hσ19) (fun σ22 v23 hσ22 => zpc_ck (zpc_bi (fD_fX12_video8 hσ22) (fun σ24 v25 hσ24 => zpc_bi (fD_fX12_bit hσ24) (fun σ26 v27 hσ26 => zpc_ck (zpc_bi (fD_fX12_video8 hσ26) (fun σ28 v29 hσ28 => fD_fX12_old_367 hσ28)))))))))))))))))))))))))))))
theorem fD_fX12_oldSprites_388 {σ0 : zSt} {k40 : zSt → Int32 → Int32 → Int32 → Int32 → Int32 → Option (zSt)} (hk40 : ∀ (y0 : zSt) (y1 : Int32) (y2 : Int32) (y3 : Int32) (y4 : Int32) (y5 : Int32), (zQ [22, 23, 24, 25, 9] [(3, 62, 62)] [] []) σ0 y0 → zpc (k40 y0 y1 y2 y3 y4 y5) (fun r => (zQ [22, 23, 24, 25, 9] [(3, 62, 62)] [] []) σ0 (r))) {σ : zSt} {x1 : Int32} {x2 : Int32} {x3 : Int32} {x4 : Int32} {x5 : Int32} (h : (zQ [22, 23, 24, 25, 9] [(3, 62, 62)] [] []) σ0 σ) : zpc (fX12_oldSprites_388 k40 σ x1 x2 x3 x4 x5) (fun r => (zQ [22, 23, 24, 25, 9] [(3, 62, 62)] [] []) σ0 (r)) := by
  unfold fX12_oldSprites_388
  exact zpc_bv (fun v1 _ => hk40 _ _ _ _ _ _ h)
theorem fD_fX12_oldSprites_150 {σ0 : zSt} {σ : zSt} (h : (zQ [22, 23, 24, 25, 9] [(3, 62, 62)] [] []) σ0 σ) : zpc (fX12_oldSprites_150 σ) (fun r => (zQ [22, 23, 24, 25, 9] [(3, 62, 62)] [] []) σ0 (r)) := by
  unfold fX12_oldSprites_150
  exact zpc_some h
theorem fD_fX12_oldSprites_382 {σ0 : zSt} {k40 : zSt → Int32 → Int32 → Int32 → Int32 → Int32 → Option (zSt)} (hk40 : ∀ (y0 : zSt) (y1 : Int32) (y2 : Int32) (y3 : Int32) (y4 : Int32) (y5 : Int32), (zQ [22, 23, 24, 25, 9] [(3, 62, 62)] [] []) σ0 y0 → zpc (k40 y0 y1 y2 y3 y4 y5) (fun r => (zQ [22, 23, 24, 25, 9] [(3, 62, 62)] [] []) σ0 (r))) {k231 : zSt → Int32 → Int32 → Int32 → Int32 → Int32 → Int32 → Int32 → Int32 → Int32 → Int32 → Option (zSt)} (hk231 : ∀ (y0 : zSt) (y1 : Int32) (y2 : Int32) (y3 : Int32) (y4 : Int32) (y5 : Int32) (y6 : Int32) (y7 : Int32) (y8 : Int32) (y9 : Int32) (y10 : Int32), (zQ [22, 23, 24, 25, 9] [(3, 62, 62)] [] []) σ0 y0 → zpc (k231 y0 y1 y2 y3 y4 y5 y6 y7 y8 y9 y10) (fun r => (zQ [22, 23, 24, 25, 9] [(3, 62, 62)] [] []) σ0 (r))) {σ : zSt} {x1 : Int32} {x2 : Int32} {x3 : Int32} {x4 : Int32} {x5 : Int32} {x8 : Int32} {x9 : Int32} {x10 : Int32} {x11 : Int32} {x12 : Int32} (h : (zQ [22, 23, 24, 25, 9] [(3, 62, 62)] [] []) σ0 σ) : zpc (fX12_oldSprites_382 k40 k231 σ x1 x2 x3 x4 x5 x8 x9 x10 x11 x12) (fun r => (zQ [22, 23, 24, 25, 9] [(3, 62, 62)] [] []) σ0 (r)) := by
  unfold fX12_oldSprites_382
  exact zpc_bv (fun v2 _ => hk231 _ _ _ _ _ _ _ _ _ _ _ h)
theorem fD_fX12_oldSprites_350 {σ0 : zSt} {k40 : zSt → Int32 → Int32 → Int32 → Int32 → Int32 → Option (zSt)} (hk40 : ∀ (y0 : zSt) (y1 : Int32) (y2 : Int32) (y3 : Int32) (y4 : Int32) (y5 : Int32), (zQ [22, 23, 24, 25, 9] [(3, 62, 62)] [] []) σ0 y0 → zpc (k40 y0 y1 y2 y3 y4 y5) (fun r => (zQ [22, 23, 24, 25, 9] [(3, 62, 62)] [] []) σ0 (r))) {k231 : zSt → Int32 → Int32 → Int32 → Int32 → Int32 → Int32 → Int32 → Int32 → Int32 → Int32 → Option (zSt)} (hk231 : ∀ (y0 : zSt) (y1 : Int32) (y2 : Int32) (y3 : Int32) (y4 : Int32) (y5 : Int32) (y6 : Int32) (y7 : Int32) (y8 : Int32) (y9 : Int32) (y10 : Int32), (zQ [22, 23, 24, 25, 9] [(3, 62, 62)] [] []) σ0 y0 → zpc (k231 y0 y1 y2 y3 y4 y5 y6 y7 y8 y9 y10) (fun r => (zQ [22, 23, 24, 25, 9] [(3, 62, 62)] [] []) σ0 (r))) {σ : zSt} {x1 : Int32} {x2 : Int32} {x3 : Int32} {x4 : Int32} {x5 : Int32} {x8 : Int32} {x9 : Int32} {x10 : Int32} {x11 : Int32} {x12 : Int32} {x15 : Int32} (h : (zQ [22, 23, 24, 25, 9] [(3, 62, 62)] [] []) σ0 σ) : zpc (fX12_oldSprites_350 k40 k231 σ x1 x2 x3 x4 x5 x8 x9 x10 x11 x12 x15) (fun r => (zQ [22, 23, 24, 25, 9] [(3, 62, 62)] [] []) σ0 (r)) := by
  unfold fX12_oldSprites_350
  exact zpc_ck (zpc_bs (zQ.wi h rfl) (fun σ3 hσ3 => zpc_if (fun _ => fD_fX12_oldSprites_382 hk40 hk231 hσ3) (fun _ => zpc_ck (zpc_if (fun _ => zpc_ck (zpc_bs (zQ.wi hσ3 rfl) (fun σ4 hσ4 => fD_fX12_oldSprites_382 hk40 hk231 hσ4))) (fun _ => fD_fX12_oldSprites_382 hk40 hk231 hσ3)))))
theorem fD_fX12_oldSprites_283 {σ0 : zSt} {k40 : zSt → Int32 → Int32 → Int32 → Int32 → Int32 → Option (zSt)} (hk40 : ∀ (y0 : zSt) (y1 : Int32) (y2 : Int32) (y3 : Int32) (y4 : Int32) (y5 : Int32), (zQ [22, 23, 24, 25, 9] [(3, 62, 62)] [] []) σ0 y0 → zpc (k40 y0 y1 y2 y3 y4 y5) (fun r => (zQ [22, 23, 24, 25, 9] [(3, 62, 62)] [] []) σ0 (r))) {k231 : zSt → Int32 → Int32 → Int32 → Int32 → Int32 → Int32 → Int32 → Int32 → Int32 → Int32 → Option (zSt)} (hk231 : ∀ (y0 : zSt) (y1 : Int32) (y2 : Int32) (y3 : Int32) (y4 : Int32) (y5 : Int32) (y6 : Int32) (y7 : Int32) (y8 : Int32) (y9 : Int32) (y10 : Int32), (zQ [22, 23, 24, 25, 9] [(3, 62, 62)] [] []) σ0 y0 → zpc (k231 y0 y1 y2 y3 y4 y5 y6 y7 y8 y9 y10) (fun r => (zQ [22, 23, 24, 25, 9] [(3, 62, 62)] [] []) σ0 (r))) {σ : zSt} {x1 : Int32} {x2 : Int32} {x3 : Int32} {x4 : Int32} {x5 : Int32} {x8 : Int32} {x9 : Int32} {x10 : Int32} {x11 : Int32} {x12 : Int32} {x13 : Int32} {s0 : Int32} {s1 : Int32} (h : (zQ [22, 23, 24, 25, 9] [(3, 62, 62)] [] []) σ0 σ) : zpc (fX12_oldSprites_283 k40 k231 σ x1 x2 x3 x4 x5 x8 x9 x10 x11 x12 x13 s0 s1) (fun r => (zQ [22, 23, 24, 25, 9] [(3, 62, 62)] [] []) σ0 (r)) := by
  unfold fX12_oldSprites_283
  exact zpc_bi (fD_fX12_video8 h) (fun σ5 v6 hσ5 => zpc_ck (zpc_bv (fun v7 _ => zpc_bv (fun v8 _ => zpc_if (fun _ => fD_fX12_oldSprites_382 hk40 hk231 hσ5) (fun _ => zpc_if (fun _ => fD_fX12_oldSprites_382 hk40 hk231 hσ5) (fun _ => zpc_if (fun _ => zpc_ck (zpc_if (fun _ => fD_fX12_oldSprites_350 hk40 hk231 hσ5) (fun _ => zpc_ck (zpc_ck (zpc_bs (zQ.wi hσ5 rfl) (fun σ9 hσ9 => fD_fX12_oldSprites_350 hk40 hk231 hσ9)))))) (fun _ => fD_fX12_oldSprites_382 hk40 hk231 hσ5)))))))
theorem fD_fX12_oldSprites_231_body {σ0 : zSt} {k40 : zSt → Int32 → Int32 → Int32 → Int32 → Int32 → Option (zSt)} (hk40 : ∀ (y0 : zSt) (y1 : Int32) (y2 : Int32) (y3 : Int32) (y4 : Int32) (y5 : Int32), (zQ [22, 23, 24, 25, 9] [(3, 62, 62)] [] []) σ0 y0 → zpc (k40 y0 y1 y2 y3 y4 y5) (fun r => (zQ [22, 23, 24, 25, 9] [(3, 62, 62)] [] []) σ0 (r))) {k231 : zSt → Int32 → Int32 → Int32 → Int32 → Int32 → Int32 → Int32 → Int32 → Int32 → Int32 → Option (zSt)} (hk231 : ∀ (y0 : zSt) (y1 : Int32) (y2 : Int32) (y3 : Int32) (y4 : Int32) (y5 : Int32) (y6 : Int32) (y7 : Int32) (y8 : Int32) (y9 : Int32) (y10 : Int32), (zQ [22, 23, 24, 25, 9] [(3, 62, 62)] [] []) σ0 y0 → zpc (k231 y0 y1 y2 y3 y4 y5 y6 y7 y8 y9 y10) (fun r => (zQ [22, 23, 24, 25, 9] [(3, 62, 62)] [] []) σ0 (r))) {σ : zSt} {x1 : Int32} {x2 : Int32} {x3 : Int32} {x4 : Int32} {x5 : Int32} {x8 : Int32} {x9 : Int32} {x10 : Int32} {x11 : Int32} {x12 : Int32} (h : (zQ [22, 23, 24, 25, 9] [(3, 62, 62)] [] []) σ0 σ) : zpc (fX12_oldSprites_231_body k40 k231 σ x1 x2 x3 x4 x5 x8 x9 x10 x11 x12) (fun r => (zQ [22, 23, 24, 25, 9] [(3, 62, 62)] [] []) σ0 (r)) := by
  unfold fX12_oldSprites_231_body
  exact zpc_if (fun _ => fD_fX12_oldSprites_388 hk40 h) (fun _ => zpc_ck (zpc_bv (fun v10 _ => zpc_bi (fD_fX12_reg h) (fun σ11 v12 hσ11 => zpc_ck (zpc_ck (zpc_if (fun _ => fD_fX12_oldSprites_283 hk40 hk231 hσ11) (fun _ => fD_fX12_oldSprites_283 hk40 hk231 hσ11)))))))
theorem fD_fX12_oldSprites_231 {σ0 : zSt} {k40 : zSt → Int32 → Int32 → Int32 → Int32 → Int32 → Option (zSt)} (hk40 : ∀ (y0 : zSt) (y1 : Int32) (y2 : Int32) (y3 : Int32) (y4 : Int32) (y5 : Int32), (zQ [22, 23, 24, 25, 9] [(3, 62, 62)] [] []) σ0 y0 → zpc (k40 y0 y1 y2 y3 y4 y5) (fun r => (zQ [22, 23, 24, 25, 9] [(3, 62, 62)] [] []) σ0 (r))) : ∀ (n : Nat) (y0 : zSt) (y1 : Int32) (y2 : Int32) (y3 : Int32) (y4 : Int32) (y5 : Int32) (y6 : Int32) (y7 : Int32) (y8 : Int32) (y9 : Int32) (y10 : Int32), (zQ [22, 23, 24, 25, 9] [(3, 62, 62)] [] []) σ0 y0 → zpc (fX12_oldSprites_231 k40 n y0 y1 y2 y3 y4 y5 y6 y7 y8 y9 y10) (fun r => (zQ [22, 23, 24, 25, 9] [(3, 62, 62)] [] []) σ0 (r)) := by
  intro n
  induction n with
  | zero => intro y0 y1 y2 y3 y4 y5 y6 y7 y8 y9 y10 h; exact zpc_none
  | succ n ih => intro y0 y1 y2 y3 y4 y5 y6 y7 y8 y9 y10 h; exact fD_fX12_oldSprites_231_body hk40 ih h
theorem fD_fX12_oldSprites_225 {σ0 : zSt} {k40 : zSt → Int32 → Int32 → Int32 → Int32 → Int32 → Option (zSt)} (hk40 : ∀ (y0 : zSt) (y1 : Int32) (y2 : Int32) (y3 : Int32) (y4 : Int32) (y5 : Int32), (zQ [22, 23, 24, 25, 9] [(3, 62, 62)] [] []) σ0 y0 → zpc (k40 y0 y1 y2 y3 y4 y5) (fun r => (zQ [22, 23, 24, 25, 9] [(3, 62, 62)] [] []) σ0 (r))) {σ : zSt} {x1 : Int32} {x2 : Int32} {x3 : Int32} {x4 : Int32} {x5 : Int32} {x8 : Int32} {x9 : Int32} {x10 : Int32} {s0 : Int32} {s1 : Int32} (h : (zQ [22, 23, 24, 25, 9] [(3, 62, 62)] [] []) σ0 σ) : zpc (fX12_oldSprites_225 k40 σ x1 x2 x3 x4 x5 x8 x9 x10 s0 s1) (fun r => (zQ [22, 23, 24, 25, 9] [(3, 62, 62)] [] []) σ0 (r)) := by
  unfold fX12_oldSprites_225
  exact zpc_bv (fun v13 _ => fD_fX12_oldSprites_231 hk40 _ _ _ _ _ _ _ _ _ _ _ _ h)
theorem fD_fX12_oldSprites_183 {σ0 : zSt} {k40 : zSt → Int32 → Int32 → Int32 → Int32 → Int32 → Option (zSt)} (hk40 : ∀ (y0 : zSt) (y1 : Int32) (y2 : Int32) (y3 : Int32) (y4 : Int32) (y5 : Int32), (zQ [22, 23, 24, 25, 9] [(3, 62, 62)] [] []) σ0 y0 → zpc (k40 y0 y1 y2 y3 y4 y5) (fun r => (zQ [22, 23, 24, 25, 9] [(3, 62, 62)] [] []) σ0 (r))) {σ : zSt} {x1 : Int32} {x2 : Int32} {x3 : Int32} {x4 : Int32} {x5 : Int32} {x6 : Int32} {x8 : Int32} {s0 : Int32} (h : (zQ [22, 23, 24, 25, 9] [(3, 62, 62)] [] []) σ0 σ) : zpc (fX12_oldSprites_183 k40 σ x1 x2 x3 x4 x5 x6 x8 s0) (fun r => (zQ [22, 23, 24, 25, 9] [(3, 62, 62)] [] []) σ0 (r)) := by
  unfold fX12_oldSprites_183
  exact zpc_bi (fD_fX12_video8 h) (fun σ14 v15 hσ14 => zpc_bv (fun v16 _ => zpc_bi (fD_fX12_video8 hσ14) (fun σ17 v18 hσ17 => zpc_bi (fD_fX12_video8 hσ17) (fun σ19 v20 hσ19 => zpc_if (fun _ => fD_fX12_oldSprites_225 hk40 hσ19) (fun _ => fD_fX12_oldSprites_225 hk40 hσ19)))))
theorem fD_fX12_oldSprites_40_body {σ0 : zSt} {k40 : zSt → Int32 → Int32 → Int32 → Int32 → Int32 → Option (zSt)} (hk40 : ∀ (y0 : zSt) (y1 : Int32) (y2 : Int32) (y3 : Int32) (y4 : Int32) (y5 : Int32), (zQ [22, 23, 24, 25, 9] [(3, 62, 62)] [] []) σ0 y0 → zpc (k40 y0 y1 y2 y3 y4 y5) (fun r => (zQ [22, 23, 24, 25, 9] [(3, 62, 62)] [] []) σ0 (r))) {σ : zSt} {x1 : Int32} {x2 : Int32} {x3 : Int32} {x4 : Int32} {x5 : Int32} (h : (zQ [22, 23, 24, 25, 9] [(3, 62, 62)] [] []) σ0 σ) : zpc (fX12_oldSprites_40_body k40 σ x1 x2 x3 x4 x5) (fun r => (zQ [22, 23, 24, 25, 9] [(3, 62, 62)] [] []) σ0 (r)) := by
  unfold fX12_oldSprites_40_body
  exact zpc_if (fun _ => zpc_some h) (fun _ => zpc_bi (fD_fX12_reg h) (fun σ21 v22 hσ21 => zpc_ck (zpc_bv (fun v23 _ => zpc_bi (fD_fX12_video8 hσ21) (fun σ24 v25 hσ24 => zpc_if (fun _ => zpc_some hσ24) (fun _ => zpc_bv (fun v26 _ => zpc_if (fun _ => zpc_if (fun _ => zpc_ck (zpc_if (fun _ => zpc_ck (zpc_ck (zpc_bs (zQ.wi hσ24 rfl) (fun σ32 hσ32 => fD_fX12_oldSprites_150 hσ32)))) (fun _ => fD_fX12_oldSprites_150 hσ24))) (fun _ => zpc_bv (fun v27 _ => zpc_if (fun _ => zpc_bi (fD_fX12_video8 hσ24) (fun σ30 v31 hσ30 => fD_fX12_oldSprites_183 hk40 hσ30)) (fun _ => zpc_bi (fD_fX12_video8 hσ24) (fun σ28 v29 hσ28 => fD_fX12_oldSprites_183 hk40 hσ28))))) (fun _ => fD_fX12_oldSprites_388 hk40 hσ24))))))))
theorem fD_fX12_oldSprites_40 {σ0 : zSt} : ∀ (n : Nat) (y0 : zSt) (y1 : Int32) (y2 : Int32) (y3 : Int32) (y4 : Int32) (y5 : Int32), (zQ [22, 23, 24, 25, 9] [(3, 62, 62)] [] []) σ0 y0 → zpc (fX12_oldSprites_40 n y0 y1 y2 y3 y4 y5) (fun r => (zQ [22, 23, 24, 25, 9] [(3, 62, 62)] [] []) σ0 (r)) := by
  intro n
  induction n with
  | zero => intro y0 y1 y2 y3 y4 y5 h; exact zpc_none
  | succ n ih => intro y0 y1 y2 y3 y4 y5 h; exact fD_fX12_oldSprites_40_body ih h
theorem fD_fX12_oldSprites_33 {σ0 : zSt} {σ : zSt} {x1 : Int32} {x2 : Int32} {s0 : Int32} (h : (zQ [22, 23, 24, 25, 9] [(3, 62, 62)] [] []) σ0 σ) : zpc (fX12_oldSprites_33 σ x1 x2 s0) (fun r => (zQ [22, 23, 24, 25, 9] [(3, 62, 62)] [] []) σ0 (r)) := by
  unfold fX12_oldSprites_33
  exact fD_fX12_oldSprites_40 _ _ _ _ _ _ _ h
theorem fD_fX12_oldSprites_15 {σ0 : zSt} {σ : zSt} {x1 : Int32} {s0 : Int32} (h : (zQ [22, 23, 24, 25, 9] [(3, 62, 62)] [] []) σ0 σ) : zpc (fX12_oldSprites_15 σ x1 s0) (fun r => (zQ [22, 23, 24, 25, 9] [(3, 62, 62)] [] []) σ0 (r)) := by
  unfold fX12_oldSprites_15
  exact zpc_bi (fD_fX12_bit h) (fun σ33 v34 hσ33 => zpc_if (fun _ => fD_fX12_oldSprites_33 hσ33) (fun _ => fD_fX12_oldSprites_33 hσ33))
theorem fD_fX12_oldSprites {σ0 : zSt} {σ : zSt} {x1 : Int32} (h : (zQ [22, 23, 24, 25, 9] [(3, 62, 62)] [] []) σ0 σ) : zpc (fX12_oldSprites σ x1) (fun r => (zQ [22, 23, 24, 25, 9] [(3, 62, 62)] [] []) σ0 (r)) := by
  unfold fX12_oldSprites
  exact zpc_bi (fD_fX12_bit h) (fun σ35 v36 hσ35 => zpc_if (fun _ => fD_fX12_oldSprites_15 hσ35) (fun _ => fD_fX12_oldSprites_15 hσ35))
theorem fD_fX12_draws_302_body {σ0 : zSt} {k302 : zSt → Int32 → Int32 → Option (zSt)} (hk302 : ∀ (y0 : zSt) (y1 : Int32) (y2 : Int32), (zQ [22, 23, 24, 25, 9] [(3, 62, 62)] [] []) σ0 y0 → zpc (k302 y0 y1 y2) (fun r => (zQ [22, 23, 24, 25, 9] [(3, 62, 62)] [] []) σ0 (r))) {σ : zSt} {x1 : Int32} {x3 : Int32} (h : (zQ [22, 23, 24, 25, 9] [(3, 62, 62)] [] []) σ0 σ) : zpc (fX12_draws_302_body k302 σ x1 x3) (fun r => (zQ [22, 23, 24, 25, 9] [(3, 62, 62)] [] []) σ0 (r)) := by
  unfold fX12_draws_302_body
  exact zpc_if (fun _ => zpc_some h) (fun _ => zpc_ck (zpc_bi (fD_fX12_colour h) (fun σ1 v2 hσ1 => zpc_ck (zpc_bs (zQ.wi hσ1 rfl) (fun σ3 hσ3 => zpc_bv (fun v4 _ => hk302 _ _ _ hσ3))))))
theorem fD_fX12_draws_302 {σ0 : zSt} : ∀ (n : Nat) (y0 : zSt) (y1 : Int32) (y2 : Int32), (zQ [22, 23, 24, 25, 9] [(3, 62, 62)] [] []) σ0 y0 → zpc (fX12_draws_302 n y0 y1 y2) (fun r => (zQ [22, 23, 24, 25, 9] [(3, 62, 62)] [] []) σ0 (r)) := by
  intro n
  induction n with
  | zero => intro y0 y1 y2 h; exact zpc_none
  | succ n ih => intro y0 y1 y2 h; exact fD_fX12_draws_302_body ih h
theorem fD_fX12_draws_300 {σ0 : zSt} {σ : zSt} {x1 : Int32} (h : (zQ [22, 23, 24, 25, 9] [(3, 62, 62)] [] []) σ0 σ) : zpc (fX12_draws_300 σ x1) (fun r => (zQ [22, 23, 24, 25, 9] [(3, 62, 62)] [] []) σ0 (r)) := by
  unfold fX12_draws_300
  exact fD_fX12_draws_302 _ _ _ _ h
theorem fD_fX12_draws_244 {σ0 : zSt} {k213 : zSt → Int32 → Int32 → Int32 → Option (zSt)} (hk213 : ∀ (y0 : zSt) (y1 : Int32) (y2 : Int32) (y3 : Int32), (zQ [22, 23, 24, 25, 9] [(3, 62, 62)] [] []) σ0 y0 → zpc (k213 y0 y1 y2 y3) (fun r => (zQ [22, 23, 24, 25, 9] [(3, 62, 62)] [] []) σ0 (r))) {σ : zSt} {x1 : Int32} {x2 : Int32} {x3 : Int32} {s0 : Int32} {s1 : Int32} (h : (zQ [22, 23, 24, 25, 9] [(3, 62, 62)] [] []) σ0 σ) : zpc (fX12_draws_244 k213 σ x1 x2 x3 s0 s1) (fun r => (zQ [22, 23, 24, 25, 9] [(3, 62, 62)] [] []) σ0 (r)) := by
  unfold fX12_draws_244
  exact zpc_ck (zpc_bs (zQ.wi h rfl) (fun σ5 hσ5 => zpc_bv (fun v6 _ => hk213 _ _ _ _ hσ5)))
theorem fD_fX12_draws_294 {σ0 : zSt} {k266 : zSt → Int32 → Int32 → Option (zSt)} (hk266 : ∀ (y0 : zSt) (y1 : Int32) (y2 : Int32), (zQ [22, 23, 24, 25, 9] [(3, 62, 62)] [] []) σ0 y0 → zpc (k266 y0 y1 y2) (fun r => (zQ [22, 23, 24, 25, 9] [(3, 62, 62)] [] []) σ0 (r))) {σ : zSt} {x1 : Int32} {x3 : Int32} (h : (zQ [22, 23, 24, 25, 9] [(3, 62, 62)] [] []) σ0 σ) : zpc (fX12_draws_294 k266 σ x1 x3) (fun r => (zQ [22, 23, 24, 25, 9] [(3, 62, 62)] [] []) σ0 (r)) := by
  unfold fX12_draws_294
  exact zpc_bv (fun v7 _ => hk266 _ _ _ h)
theorem fD_fX12_draws_266_body {σ0 : zSt} {k266 : zSt → Int32 → Int32 → Option (zSt)} (hk266 : ∀ (y0 : zSt) (y1 : Int32) (y2 : Int32), (zQ [22, 23, 24, 25, 9] [(3, 62, 62)] [] []) σ0 y0 → zpc (k266 y0 y1 y2) (fun r => (zQ [22, 23, 24, 25, 9] [(3, 62, 62)] [] []) σ0 (r))) {σ : zSt} {x1 : Int32} {x3 : Int32} (h : (zQ [22, 23, 24, 25, 9] [(3, 62, 62)] [] []) σ0 σ) : zpc (fX12_draws_266_body k266 σ x1 x3) (fun r => (zQ [22, 23, 24, 25, 9] [(3, 62, 62)] [] []) σ0 (r)) := by
  unfold fX12_draws_266_body
  exact zpc_if (fun _ => fD_fX12_draws_300 h) (fun _ => zpc_ck (zpc_if (fun _ => fD_fX12_draws_294 hk266 h) (fun _ => zpc_ck (zpc_ck (zpc_bs (zQ.wi h rfl) (fun σ8 hσ8 => fD_fX12_draws_294 hk266 hσ8))))))
theorem fD_fX12_draws_266 {σ0 : zSt} : ∀ (n : Nat) (y0 : zSt) (y1 : Int32) (y2 : Int32), (zQ [22, 23, 24, 25, 9] [(3, 62, 62)] [] []) σ0 y0 → zpc (fX12_draws_266 n y0 y1 y2) (fun r => (zQ [22, 23, 24, 25, 9] [(3, 62, 62)] [] []) σ0 (r)) := by
  intro n
  induction n with
  | zero => intro y0 y1 y2 h; exact zpc_none
  | succ n ih => intro y0 y1 y2 h; exact fD_fX12_draws_266_body ih h
theorem fD_fX12_draws_264 {σ0 : zSt} {σ : zSt} {x1 : Int32} (h : (zQ [22, 23, 24, 25, 9] [(3, 62, 62)] [] []) σ0 σ) : zpc (fX12_draws_264 σ x1) (fun r => (zQ [22, 23, 24, 25, 9] [(3, 62, 62)] [] []) σ0 (r)) := by
  unfold fX12_draws_264
  exact fD_fX12_draws_266 _ _ _ _ h
theorem fD_fX12_draws_213_body {σ0 : zSt} {k213 : zSt → Int32 → Int32 → Int32 → Option (zSt)} (hk213 : ∀ (y0 : zSt) (y1 : Int32) (y2 : Int32) (y3 : Int32), (zQ [22, 23, 24, 25, 9] [(3, 62, 62)] [] []) σ0 y0 → zpc (k213 y0 y1 y2 y3) (fun r => (zQ [22, 23, 24, 25, 9] [(3, 62, 62)] [] []) σ0 (r))) {σ : zSt} {x1 : Int32} {x2 : Int32} {x3 : Int32} (h : (zQ [22, 23, 24, 25, 9] [(3, 62, 62)] [] []) σ0 σ) : zpc (fX12_draws_213_body k213 σ x1 x2 x3) (fun r => (zQ [22, 23, 24, 25, 9] [(3, 62, 62)] [] []) σ0 (r)) := by
  unfold fX12_draws_213_body
  exact zpc_if (fun _ => zpc_bi (fD_fX12_mode h) (fun σ9 v10 hσ9 => zpc_if (fun _ => fD_fX12_draws_264 hσ9) (fun _ => zpc_bu (fD_fX12_oldSprites hσ9) (fun σ11 hσ11 => fD_fX12_draws_264 hσ11)))) (fun _ => zpc_bi (fD_fX12_old h) (fun σ12 v13 hσ12 => zpc_if (fun _ => fD_fX12_draws_244 hk213 hσ12) (fun _ => fD_fX12_draws_244 hk213 hσ12)))
theorem fD_fX12_draws_213 {σ0 : zSt} : ∀ (n : Nat) (y0 : zSt) (y1 : Int32) (y2 : Int32) (y3 : Int32), (zQ [22, 23, 24, 25, 9] [(3, 62, 62)] [] []) σ0 y0 → zpc (fX12_draws_213 n y0 y1 y2 y3) (fun r => (zQ [22, 23, 24, 25, 9] [(3, 62, 62)] [] []) σ0 (r)) := by
  intro n
  induction n with
  | zero => intro y0 y1 y2 y3 h; exact zpc_none
  | succ n ih => intro y0 y1 y2 y3 h; exact fD_fX12_draws_213_body ih h
theorem fD_fX12_draws_200 {σ0 : zSt} {σ : zSt} {x1 : Int32} {x2 : Int32} (h : (zQ [22, 23, 24, 25, 9] [(3, 62, 62)] [] []) σ0 σ) : zpc (fX12_draws_200 σ x1 x2) (fun r => (zQ [22, 23, 24, 25, 9] [(3, 62, 62)] [] []) σ0 (r)) := by
  unfold fX12_draws_200
  exact zpc_bi (fD_fX12_bit h) (fun σ14 v15 hσ14 => zpc_if (fun _ => fD_fX12_draws_213 _ _ _ _ _ hσ14) (fun _ => fD_fX12_draws_300 hσ14))
theorem fD_fX12_draws_160 {σ0 : zSt} {k123 : zSt → Int32 → Int32 → Int32 → Option (zSt)} (hk123 : ∀ (y0 : zSt) (y1 : Int32) (y2 : Int32) (y3 : Int32), (zQ [22, 23, 24, 25, 9] [(3, 62, 62)] [] []) σ0 y0 → zpc (k123 y0 y1 y2 y3) (fun r => (zQ [22, 23, 24, 25, 9] [(3, 62, 62)] [] []) σ0 (r))) {σ : zSt} {x1 : Int32} {x2 : Int32} {x3 : Int32} (h : (zQ [22, 23, 24, 25, 9] [(3, 62, 62)] [] []) σ0 σ) : zpc (fX12_draws_160 k123 σ x1 x2 x3) (fun r => (zQ [22, 23, 24, 25, 9] [(3, 62, 62)] [] []) σ0 (r)) := by
  unfold fX12_draws_160
  exact zpc_bv (fun v16 _ => hk123 _ _ _ _ h)
theorem fD_fX12_draws_197 {σ0 : zSt} {σ : zSt} {x1 : Int32} (h : (zQ [22, 23, 24, 25, 9] [(3, 62, 62)] [] []) σ0 σ) : zpc (fX12_draws_197 σ x1) (fun r => (zQ [22, 23, 24, 25, 9] [(3, 62, 62)] [] []) σ0 (r)) := by
  unfold fX12_draws_197
  exact fD_fX12_draws_300 h
theorem fD_fX12_draws_168_body {σ0 : zSt} {k168 : zSt → Int32 → Int32 → Int32 → Option (zSt)} (hk168 : ∀ (y0 : zSt) (y1 : Int32) (y2 : Int32) (y3 : Int32), (zQ [22, 23, 24, 25, 9] [(3, 62, 62)] [] []) σ0 y0 → zpc (k168 y0 y1 y2 y3) (fun r => (zQ [22, 23, 24, 25, 9] [(3, 62, 62)] [] []) σ0 (r))) {σ : zSt} {x1 : Int32} {x2 : Int32} {x3 : Int32} (h : (zQ [22, 23, 24, 25, 9] [(3, 62, 62)] [] []) σ0 σ) : zpc (fX12_draws_168_body k168 σ x1 x2 x3) (fun r => (zQ [22, 23, 24, 25, 9] [(3, 62, 62)] [] []) σ0 (r)) := by
  unfold fX12_draws_168_body
  exact zpc_if (fun _ => fD_fX12_draws_197 h) (fun _ => zpc_bi (fD_fX12_bit h) (fun σ17 v18 hσ17 => zpc_if (fun _ => zpc_ck (zpc_bs (zQ.wi hσ17 rfl) (fun σ19 hσ19 => zpc_bv (fun v20 _ => hk168 _ _ _ _ hσ19)))) (fun _ => fD_fX12_draws_197 hσ17)))
theorem fD_fX12_draws_168 {σ0 : zSt} : ∀ (n : Nat) (y0 : zSt) (y1 : Int32) (y2 : Int32) (y3 : Int32), (zQ [22, 23, 24, 25, 9] [(3, 62, 62)] [] []) σ0 y0 → zpc (fX12_draws_168 n y0 y1 y2 y3) (fun r => (zQ [22, 23, 24, 25, 9] [(3, 62, 62)] [] []) σ0 (r)) := by
  intro n
  induction n with
  | zero => intro y0 y1 y2 y3 h; exact zpc_none
  | succ n ih => intro y0 y1 y2 y3 h; exact fD_fX12_draws_168_body ih h
theorem fD_fX12_draws_123_body {σ0 : zSt} {k123 : zSt → Int32 → Int32 → Int32 → Option (zSt)} (hk123 : ∀ (y0 : zSt) (y1 : Int32) (y2 : Int32) (y3 : Int32), (zQ [22, 23, 24, 25, 9] [(3, 62, 62)] [] []) σ0 y0 → zpc (k123 y0 y1 y2 y3) (fun r => (zQ [22, 23, 24, 25, 9] [(3, 62, 62)] [] []) σ0 (r))) {σ : zSt} {x1 : Int32} {x2 : Int32} {x3 : Int32} (h : (zQ [22, 23, 24, 25, 9] [(3, 62, 62)] [] []) σ0 σ) : zpc (fX12_draws_123_body k123 σ x1 x2 x3) (fun r => (zQ [22, 23, 24, 25, 9] [(3, 62, 62)] [] []) σ0 (r)) := by
  unfold fX12_draws_123_body
  exact zpc_if (fun _ => fD_fX12_draws_168 _ _ _ _ _ h) (fun _ => zpc_ck (zpc_if (fun _ => fD_fX12_draws_160 hk123 h) (fun _ => zpc_ck (zpc_if (fun _ => zpc_ck (zpc_ck (zpc_bs (zQ.wi h rfl) (fun σ21 hσ21 => fD_fX12_draws_160 hk123 hσ21)))) (fun _ => fD_fX12_draws_160 hk123 h)))))
theorem fD_fX12_draws_123 {σ0 : zSt} : ∀ (n : Nat) (y0 : zSt) (y1 : Int32) (y2 : Int32) (y3 : Int32), (zQ [22, 23, 24, 25, 9] [(3, 62, 62)] [] []) σ0 y0 → zpc (fX12_draws_123 n y0 y1 y2 y3) (fun r => (zQ [22, 23, 24, 25, 9] [(3, 62, 62)] [] []) σ0 (r)) := by
  intro n
  induction n with
  | zero => intro y0 y1 y2 y3 h; exact zpc_none
  | succ n ih => intro y0 y1 y2 y3 h; exact fD_fX12_draws_123_body ih h
theorem fD_fX12_draws_97_body {σ0 : zSt} {k97 : zSt → Int32 → Int32 → Int32 → Option (zSt)} (hk97 : ∀ (y0 : zSt) (y1 : Int32) (y2 : Int32) (y3 : Int32), (zQ [22, 23, 24, 25, 9] [(3, 62, 62)] [] []) σ0 y0 → zpc (k97 y0 y1 y2 y3) (fun r => (zQ [22, 23, 24, 25, 9] [(3, 62, 62)] [] []) σ0 (r))) {σ : zSt} {x1 : Int32} {x2 : Int32} {x3 : Int32} (h : (zQ [22, 23, 24, 25, 9] [(3, 62, 62)] [] []) σ0 σ) : zpc (fX12_draws_97_body k97 σ x1 x2 x3) (fun r => (zQ [22, 23, 24, 25, 9] [(3, 62, 62)] [] []) σ0 (r)) := by
  unfold fX12_draws_97_body
  exact zpc_if (fun _ => zpc_bu (fD_fX12_sprites h) (fun σ22 hσ22 => fD_fX12_draws_123 _ _ _ _ _ hσ22)) (fun _ => zpc_bu (fD_fX12_tile h) (fun σ23 hσ23 => zpc_bv (fun v24 _ => hk97 _ _ _ _ hσ23)))
theorem fD_fX12_draws_97 {σ0 : zSt} : ∀ (n : Nat) (y0 : zSt) (y1 : Int32) (y2 : Int32) (y3 : Int32), (zQ [22, 23, 24, 25, 9] [(3, 62, 62)] [] []) σ0 y0 → zpc (fX12_draws_97 n y0 y1 y2 y3) (fun r => (zQ [22, 23, 24, 25, 9] [(3, 62, 62)] [] []) σ0 (r)) := by
  intro n
  induction n with
  | zero => intro y0 y1 y2 y3 h; exact zpc_none
  | succ n ih => intro y0 y1 y2 y3 h; exact fD_fX12_draws_97_body ih h
theorem fD_fX12_draws_35_body {σ0 : zSt} {k35 : zSt → Int32 → Int32 → Int32 → Option (zSt)} (hk35 : ∀ (y0 : zSt) (y1 : Int32) (y2 : Int32) (y3 : Int32), (zQ [22, 23, 24, 25, 9] [(3, 62, 62)] [] []) σ0 y0 → zpc (k35 y0 y1 y2 y3) (fun r => (zQ [22, 23, 24, 25, 9] [(3, 62, 62)] [] []) σ0 (r))) {σ : zSt} {x1 : Int32} {x2 : Int32} {x3 : Int32} (h : (zQ [22, 23, 24, 25, 9] [(3, 62, 62)] [] []) σ0 σ) : zpc (fX12_draws_35_body k35 σ x1 x2 x3) (fun r => (zQ [22, 23, 24, 25, 9] [(3, 62, 62)] [] []) σ0 (r)) := by
  unfold fX12_draws_35_body
  exact zpc_if (fun _ => zpc_bi (fD_fX12_bit h) (fun σ25 v26 hσ25 => zpc_if (fun _ => zpc_bi (fD_fX12_mode hσ25) (fun σ27 v28 hσ27 => zpc_if (fun _ => fD_fX12_draws_97 _ _ _ _ _ hσ27) (fun _ => fD_fX12_draws_200 hσ27))) (fun _ => fD_fX12_draws_200 hσ25))) (fun _ => zpc_ck (zpc_bs (zQ.wi h rfl) (fun σ29 hσ29 => zpc_ck (zpc_bs (zQ.wi hσ29 rfl) (fun σ30 hσ30 => zpc_ck (zpc_bs (zQ.wi hσ30 rfl) (fun σ31 hσ31 => zpc_ck (zpc_bs (zQ.wi hσ31 rfl) (fun σ32 hσ32 => zpc_bv (fun v33 _ => hk35 _ _ _ _ hσ32))))))))))
theorem fD_fX12_draws_35 {σ0 : zSt} : ∀ (n : Nat) (y0 : zSt) (y1 : Int32) (y2 : Int32) (y3 : Int32), (zQ [22, 23, 24, 25, 9] [(3, 62, 62)] [] []) σ0 y0 → zpc (fX12_draws_35 n y0 y1 y2 y3) (fun r => (zQ [22, 23, 24, 25, 9] [(3, 62, 62)] [] []) σ0 (r)) := by
  intro n
  induction n with
  | zero => intro y0 y1 y2 y3 h; exact zpc_none
  | succ n ih => intro y0 y1 y2 y3 h; exact fD_fX12_draws_35_body ih h
theorem fD_fX12_draws_32 {σ0 : zSt} {σ : zSt} {x1 : Int32} {s0 : Int32} (h : (zQ [22, 23, 24, 25, 9] [(3, 62, 62)] [] []) σ0 σ) : zpc (fX12_draws_32 σ x1 s0) (fun r => (zQ [22, 23, 24, 25, 9] [(3, 62, 62)] [] []) σ0 (r)) := by
  unfold fX12_draws_32
  exact fD_fX12_draws_35 _ _ _ _ _ h
theorem fD_fX12_draws {σ0 : zSt} {σ : zSt} {x1 : Int32} (h : (zQ [22, 23, 24, 25, 9] [(3, 62, 62)] [] []) σ0 σ) : zpc (fX12_draws σ x1) (fun r => (zQ [22, 23, 24, 25, 9] [(3, 62, 62)] [] []) σ0 (r)) := by
  unfold fX12_draws
  exact zpc_bi (fD_fX12_mode h) (fun σ34 v35 hσ34 => zpc_if (fun _ => zpc_bi (fD_fX12_reg hσ34) (fun σ38 v39 hσ38 => zpc_ck (fD_fX12_draws_32 hσ38))) (fun _ => zpc_bi (fD_fX12_reg hσ34) (fun σ36 v37 hσ36 => zpc_ck (fD_fX12_draws_32 hσ36))))
