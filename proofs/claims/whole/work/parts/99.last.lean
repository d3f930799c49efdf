theorem az_test2 : az_cd 100 3 = some ((az_m100[3]?).getD (0, .dup, 1, 0, 0, 0, [], [])) := rfl
theorem i_vc : Claimed_1_1 ∧ Claimed_1_2 := sorry
