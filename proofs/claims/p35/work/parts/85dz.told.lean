/-! What is told, place by place. -/
section ZTold
variable {v : qV} {np : Nat}
theorem c_0 {sn : Nat} : q_cTold v np sn 0 = v 0 := rfl
theorem c_1 {sn : Nat} : q_cTold v np sn 1 = v 1 := rfl
theorem c_2 {sn : Nat} : q_cTold v np sn 2 = v 2 := rfl
theorem c_3 {sn : Nat} : q_cTold v np sn 3 = v 3 := rfl
theorem c_5 {sn : Nat} : q_cTold v np sn 5 = v 5 := rfl
theorem c_6 {sn : Nat} : q_cTold v np sn 6 = v 6 := rfl
theorem c_7 {sn : Nat} : q_cTold v np sn 7 = v 7 := rfl
theorem c_8 {sn : Nat} : q_cTold v np sn 8 = v 8 + 1000000 := rfl
theorem c_10 {sn : Nat} : q_cTold v np sn 10 = v 9 := rfl
theorem c_11 {sn : Nat} : q_cTold v np sn 11 = v 10 := rfl
theorem c_12 {sn : Nat} : q_cTold v np sn 12 = v 11 := rfl
theorem c_13 {sn : Nat} : q_cTold v np sn 13 = v 12 := rfl
theorem c_14 {sn : Nat} : q_cTold v np sn 14 = q_deb v np := rfl
theorem c_15 {sn : Nat} : q_cTold v np sn 15 = v 13 := rfl
theorem c_16 {sn : Nat} : q_cTold v np sn 16 = v 14 := rfl
theorem c_17 {sn : Nat} : q_cTold v np sn 17 = v 15 := rfl
theorem p_0 {p : Nat} : q_pTold v p 0 = q_of v p 0 := rfl
theorem p_1 {p : Nat} : q_pTold v p 1 = q_of v p 1 := rfl
theorem p_2 {p : Nat} : q_pTold v p 2 = q_of v p 2 := rfl
theorem p_3 {p : Nat} : q_pTold v p 3 = q_of v p 3 := rfl
theorem p_5 {p : Nat} : q_pTold v p 5 = q_of v p 5 := rfl
theorem p_6 {p : Nat} : q_pTold v p 6 = q_of v p 6 := rfl
theorem p_4 {p : Nat} : q_pTold v p 4 = q_of v p 4 - 1 := rfl
theorem i_0 {i : Nat} : q_iTold v i 0 = q_its v i 0 := rfl
theorem i_1 {i : Nat} : q_iTold v i 1 = q_its v i 1 := rfl
theorem i_3 {i : Nat} : q_iTold v i 3 = q_its v i 3 := rfl
theorem i_2 {i : Nat} : q_iTold v i 2 = q_its v i 2 - 1 := rfl
theorem i_4 {i : Nat} : q_iTold v i 4 = if q_its v i 2 = 0 then -1 else q_its v i 4 := rfl
end ZTold
