theorem i_vc : Claimed_1_1 ∧ Claimed_1_2 := z_vc (fun _ _ h => z_owed h)
