theorem fT_fX12_say_2_body {σ0 : zSt} {k2 : zSt → Nat → Int32 → Option (zSt)} (hk2 : ∀ (y0 : zSt) (y1 : Nat) (y2 : Int32), (zQ [26] [(0, 39, 39)] [] []) σ0 y0 → zpc (k2 y0 y1 y2) (fun r => (zQ [26] [(0, 39, 39)] [] []) σ0 (r))) {σ : zSt} {n1 : Nat} {x2 : Int32} (h : (zQ [26] [(0, 39, 39)] [] []) σ0 σ) : zpc (fX12_say_2_body k2 σ n1 x2) (fun r => (zQ [26] [(0, 39, 39)] [] []) σ0 (r)) := by
  unfold fX12_say_2_body
  exact zpc_ck (zpc_if (fun _ => zpc_some h) (fun _ => zpc_ck (zpc_ck (zpc_ck (zpc_bs (zQ.wi h rfl) (fun σ1 hσ1 => zpc_bs (zQ.wi hσ1 rfl) (fun σ2 hσ2 => zpc_bv (fun v3 _ => hk2 _ _ _ hσ2))))))))
theorem fT_fX12_say_2 {σ0 : zSt} : ∀ (n : Nat) (y0 : zSt) (y1 : Nat) (y2 : Int32), (zQ [26] [(0, 39, 39)] [] []) σ0 y0 → zpc (fX12_say_2 n y0 y1 y2) (fun r => (zQ [26] [(0, 39, 39)] [] []) σ0 (r)) := by
  intro n
  induction n with
  | zero => intro y0 y1 y2 h; exact zpc_none
  | succ n ih => intro y0 y1 y2 h; exact fT_fX12_say_2_body ih h
theorem fT_fX12_say {σ0 : zSt} {σ : zSt} {n1 : Nat} (h : (zQ [26] [(0, 39, 39)] [] []) σ0 σ) : zpc (fX12_say σ n1) (fun r => (zQ [26] [(0, 39, 39)] [] []) σ0 (r)) := by
  unfold fX12_say
  exact fT_fX12_say_2 _ _ _ _ h
theorem fT_fX12_hex_49 {σ0 : zSt} {k4 : zSt → Int32 → Int32 → Option (zSt)} (hk4 : ∀ (y0 : zSt) (y1 : Int32) (y2 : Int32), (zQ [26] [(0, 39, 39)] [] []) σ0 y0 → zpc (k4 y0 y1 y2) (fun r => (zQ [26] [(0, 39, 39)] [] []) σ0 (r))) {σ : zSt} {x1 : Int32} {x3 : Int32} {s0 : Int32} {s1 : Int32} (h : (zQ [26] [(0, 39, 39)] [] []) σ0 σ) : zpc (fX12_hex_49 k4 σ x1 x3 s0 s1) (fun r => (zQ [26] [(0, 39, 39)] [] []) σ0 (r)) := by
  unfold fX12_hex_49
  exact zpc_ck (zpc_bs (zQ.wi h rfl) (fun σ1 hσ1 => zpc_bs (zQ.wi hσ1 rfl) (fun σ2 hσ2 => zpc_bv (fun v3 _ => hk4 _ _ _ hσ2))))
theorem fT_fX12_hex_4_body {σ0 : zSt} {k4 : zSt → Int32 → Int32 → Option (zSt)} (hk4 : ∀ (y0 : zSt) (y1 : Int32) (y2 : Int32), (zQ [26] [(0, 39, 39)] [] []) σ0 y0 → zpc (k4 y0 y1 y2) (fun r => (zQ [26] [(0, 39, 39)] [] []) σ0 (r))) {σ : zSt} {x1 : Int32} {x3 : Int32} (h : (zQ [26] [(0, 39, 39)] [] []) σ0 σ) : zpc (fX12_hex_4_body k4 σ x1 x3) (fun r => (zQ [26] [(0, 39, 39)] [] []) σ0 (r)) := by
  unfold fX12_hex_4_body
  exact zpc_if (fun _ => zpc_some h) (fun _ => zpc_bv (fun v4 _ => zpc_if (fun _ => fT_fX12_hex_49 hk4 h) (fun _ => fT_fX12_hex_49 hk4 h)))
theorem fT_fX12_hex_4 {σ0 : zSt} : ∀ (n : Nat) (y0 : zSt) (y1 : Int32) (y2 : Int32), (zQ [26] [(0, 39, 39)] [] []) σ0 y0 → zpc (fX12_hex_4 n y0 y1 y2) (fun r => (zQ [26] [(0, 39, 39)] [] []) σ0 (r)) := by
  intro n
  induction n with
  | zero => intro y0 y1 y2 h; exact zpc_none
  | succ n ih => intro y0 y1 y2 h; exact fT_fX12_hex_4_body ih h
theorem fT_fX12_hex {σ0 : zSt} {σ : zSt} {x1 : Int32} {x2 : Int32} (h : (zQ [26] [(0, 39, 39)] [] []) σ0 σ) : zpc (fX12_hex σ x1 x2) (fun r => (zQ [26] [(0, 39, 39)] [] []) σ0 (r)) := by
  unfold fX12_hex
  exact zpc_bv (fun v5 _ => fT_fX12_hex_4 _ _ _ _ h)
