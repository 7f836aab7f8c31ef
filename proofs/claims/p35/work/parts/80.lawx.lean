/-! What the law calls of the class, where nothing is thrown. By program (wip/p35/genlaw.py). Own work. -/
def nw_X4_lend : eW := fun As S post => x_X4_lend As S post e_no
theorem nk_X4_lend : e_OK e_rf i_X4_lend 1 6 nw_X4_lend := fun G hG As S post h => kx_X4_lend G hG As S post e_no h
theorem nr_X4_lend : ∀ (As : List eV) (S : eM) (post : eQ), nw_X4_lend As S post → ∃ k i r, As = aR k i :: r ∧ e_kd k = 4 := fun As S post h => e_sfx_rec rfl As S post e_no h
def nw_X4_teach : eW := fun As S post => x_X4_teach As S post e_no
theorem nk_X4_teach : e_OK e_rf i_X4_teach 1 6 nw_X4_teach := fun G hG As S post h => kx_X4_teach G hG As S post e_no h
theorem nr_X4_teach : ∀ (As : List eV) (S : eM) (post : eQ), nw_X4_teach As S post → ∃ k i r, As = aR k i :: r ∧ e_kd k = 4 := fun As S post h => e_sfx_rec rfl As S post e_no h
def nw_X4_march : eW := fun As S post => x_X4_march As S post e_no
theorem nk_X4_march : e_OK e_rf i_X4_march 1 6 nw_X4_march := fun G hG As S post h => kx_X4_march G hG As S post e_no h
theorem nr_X4_march : ∀ (As : List eV) (S : eM) (post : eQ), nw_X4_march As S post → ∃ k i r, As = aR k i :: r ∧ e_kd k = 4 := fun As S post h => e_sfx_rec rfl As S post e_no h
def nw_X4_back : eW := fun As S post => x_X4_back As S post e_no
theorem nk_X4_back : e_OK e_rf i_X4_back 1 6 nw_X4_back := fun G hG As S post h => kx_X4_back G hG As S post e_no h
theorem nr_X4_back : ∀ (As : List eV) (S : eM) (post : eQ), nw_X4_back As S post → ∃ k i r, As = aR k i :: r ∧ e_kd k = 4 := fun As S post h => e_sfx_rec rfl As S post e_no h
def nw_X4_mend : eW := fun As S post => x_X4_mend As S post e_no
theorem nk_X4_mend : e_OK e_rf i_X4_mend 1 6 nw_X4_mend := fun G hG As S post h => kx_X4_mend G hG As S post e_no h
theorem nr_X4_mend : ∀ (As : List eV) (S : eM) (post : eQ), nw_X4_mend As S post → ∃ k i r, As = aR k i :: r ∧ e_kd k = 4 := fun As S post h => e_sfx_rec rfl As S post e_no h
def nw_X4_part : eW := fun As S post => x_X4_part As S post e_no
theorem nk_X4_part : e_OK e_rf i_X4_part 1 6 nw_X4_part := fun G hG As S post h => kx_X4_part G hG As S post e_no h
theorem nr_X4_part : ∀ (As : List eV) (S : eM) (post : eQ), nw_X4_part As S post → ∃ k i r, As = aR k i :: r ∧ e_kd k = 4 := fun As S post h => e_sfx_rec rfl As S post e_no h
def nw_X4_pupilOf : eW := fun As S post => x_X4_pupilOf As S post e_no
theorem nk_X4_pupilOf : e_OK e_rf i_X4_pupilOf 1 6 nw_X4_pupilOf := fun G hG As S post h => kx_X4_pupilOf G hG As S post e_no h
theorem nr_X4_pupilOf : ∀ (As : List eV) (S : eM) (post : eQ), nw_X4_pupilOf As S post → ∃ k i r, As = aR k i :: r ∧ e_kd k = 4 := fun As S post h => e_sfx_rec rfl As S post e_no h
def nw_X4_instrumentOf : eW := fun As S post => x_X4_instrumentOf As S post e_no
theorem nk_X4_instrumentOf : e_OK e_rf i_X4_instrumentOf 1 6 nw_X4_instrumentOf := fun G hG As S post h => kx_X4_instrumentOf G hG As S post e_no h
theorem nr_X4_instrumentOf : ∀ (As : List eV) (S : eM) (post : eQ), nw_X4_instrumentOf As S post → ∃ k i r, As = aR k i :: r ∧ e_kd k = 4 := fun As S post h => e_sfx_rec rfl As S post e_no h
def nw_X4_shortOf : eW := fun As S post => x_X4_shortOf As S post e_no
theorem nk_X4_shortOf : e_OK e_rf i_X4_shortOf 1 6 nw_X4_shortOf := fun G hG As S post h => kx_X4_shortOf G hG As S post e_no h
theorem nr_X4_shortOf : ∀ (As : List eV) (S : eM) (post : eQ), nw_X4_shortOf As S post → ∃ k i r, As = aR k i :: r ∧ e_kd k = 4 := fun As S post h => e_sfx_rec rfl As S post e_no h
def nw_X4_most : eW := fun As S post => x_X4_most As S post e_no
theorem nk_X4_most : e_OK e_rf i_X4_most 1 6 nw_X4_most := fun G hG As S post h => kx_X4_most G hG As S post e_no h
theorem nr_X4_most : ∀ (As : List eV) (S : eM) (post : eQ), nw_X4_most As S post → ∃ k i r, As = aR k i :: r ∧ e_kd k = 4 := fun As S post h => e_sfx_rec rfl As S post e_no h
def nw_X4_told : eW := fun As S post => x_X4_told As S post e_no
theorem nk_X4_told : e_OK e_rf i_X4_told 16 1056 nw_X4_told := fun G hG As S post h => kx_X4_told G hG As S post e_no h
theorem nr_X4_told : ∀ (As : List eV) (S : eM) (post : eQ), nw_X4_told As S post → ∃ k i r, As = aR k i :: r ∧ e_kd k = 4 := fun As S post h => e_sfx_rec rfl As S post e_no h
def nw_X4_helps : eW := fun As S post => x_X4_helps As S post e_no
theorem nk_X4_helps : e_OK e_rf i_X4_helps 1 6 nw_X4_helps := fun G hG As S post h => kx_X4_helps G hG As S post e_no h
theorem nr_X4_helps : ∀ (As : List eV) (S : eM) (post : eQ), nw_X4_helps As S post → ∃ k i r, As = aR k i :: r ∧ e_kd k = 4 := fun As S post h => e_sfx_rec rfl As S post e_no h
def nw_X4_noLesson : eW := fun As S post => x_X4_noLesson As S post e_no
theorem nk_X4_noLesson : e_OK e_rf i_X4_noLesson 1 6 nw_X4_noLesson := fun G hG As S post h => kx_X4_noLesson G hG As S post e_no h
theorem nr_X4_noLesson : ∀ (As : List eV) (S : eM) (post : eQ), nw_X4_noLesson As S post → ∃ k i r, As = aR k i :: r ∧ e_kd k = 4 := fun As S post h => e_sfx_rec rfl As S post e_no h
def nw_X4_count : eW := fun As S post => x_X4_count As S post e_no
theorem nk_X4_count : e_OK e_rf i_X4_count 1 6 nw_X4_count := fun G hG As S post h => kx_X4_count G hG As S post e_no h
theorem nr_X4_count : ∀ (As : List eV) (S : eM) (post : eQ), nw_X4_count As S post → ∃ k i r, As = aR k i :: r ∧ e_kd k = 4 := fun As S post h => e_sfx_rec rfl As S post e_no h
def nw_X4_noLoan : eW := fun As S post => x_X4_noLoan As S post e_no
theorem nk_X4_noLoan : e_OK e_rf i_X4_noLoan 1 6 nw_X4_noLoan := fun G hG As S post h => kx_X4_noLoan G hG As S post e_no h
theorem nr_X4_noLoan : ∀ (As : List eV) (S : eM) (post : eQ), nw_X4_noLoan As S post → ∃ k i r, As = aR k i :: r ∧ e_kd k = 4 := fun As S post h => e_sfx_rec rfl As S post e_no h
def nw_X4_loan : eW := fun As S post => x_X4_loan As S post e_no
theorem nk_X4_loan : e_OK e_rf i_X4_loan 1 6 nw_X4_loan := fun G hG As S post h => kx_X4_loan G hG As S post e_no h
theorem nr_X4_loan : ∀ (As : List eV) (S : eM) (post : eQ), nw_X4_loan As S post → ∃ k i r, As = aR k i :: r ∧ e_kd k = 4 := fun As S post h => e_sfx_rec rfl As S post e_no h
def nw_X4_undo : eW := fun As S post => x_X4_undo As S post e_no
theorem nk_X4_undo : e_OK e_rf i_X4_undo 1 6 nw_X4_undo := fun G hG As S post h => kx_X4_undo G hG As S post e_no h
theorem nr_X4_undo : ∀ (As : List eV) (S : eM) (post : eQ), nw_X4_undo As S post → ∃ k i r, As = aR k i :: r ∧ e_kd k = 4 := fun As S post h => e_sfx_rec rfl As S post e_no h
def nw_X4_pupil : eW := fun As S post => x_X4_pupil As S post e_no
theorem nk_X4_pupil : e_OK e_rf i_X4_pupil 1 6 nw_X4_pupil := fun G hG As S post h => kx_X4_pupil G hG As S post e_no h
theorem nr_X4_pupil : ∀ (As : List eV) (S : eM) (post : eQ), nw_X4_pupil As S post → ∃ k i r, As = aR k i :: r ∧ e_kd k = 4 := fun As S post h => e_sfx_rec rfl As S post e_no h
def nw_X4_instrument : eW := fun As S post => x_X4_instrument As S post e_no
theorem nk_X4_instrument : e_OK e_rf i_X4_instrument 1 6 nw_X4_instrument := fun G hG As S post h => kx_X4_instrument G hG As S post e_no h
theorem nr_X4_instrument : ∀ (As : List eV) (S : eM) (post : eQ), nw_X4_instrument As S post → ∃ k i r, As = aR k i :: r ∧ e_kd k = 4 := fun As S post h => e_sfx_rec rfl As S post e_no h
def nw_X4_dent : eW := fun As S post => x_X4_dent As S post e_no
theorem nk_X4_dent : e_OK e_rf i_X4_dent 1 6 nw_X4_dent := fun G hG As S post h => kx_X4_dent G hG As S post e_no h
theorem nr_X4_dent : ∀ (As : List eV) (S : eM) (post : eQ), nw_X4_dent As S post → ∃ k i r, As = aR k i :: r ∧ e_kd k = 4 := fun As S post h => e_sfx_rec rfl As S post e_no h
def nw_X4_pay : eW := fun As S post => x_X4_pay As S post e_no
theorem nk_X4_pay : e_OK e_rf i_X4_pay 1 6 nw_X4_pay := fun G hG As S post h => kx_X4_pay G hG As S post e_no h
theorem nr_X4_pay : ∀ (As : List eV) (S : eM) (post : eQ), nw_X4_pay As S post → ∃ k i r, As = aR k i :: r ∧ e_kd k = 4 := fun As S post h => e_sfx_rec rfl As S post e_no h
def nw_X4_set : eW := fun As S post => x_X4_set As S post e_no
theorem nk_X4_set : e_OK e_rf i_X4_set 1 6 nw_X4_set := fun G hG As S post h => kx_X4_set G hG As S post e_no h
theorem nr_X4_set : ∀ (As : List eV) (S : eM) (post : eQ), nw_X4_set As S post → ∃ k i r, As = aR k i :: r ∧ e_kd k = 4 := fun As S post h => e_sfx_rec rfl As S post e_no h
def nw_X4_pass : eW := fun As S post => x_X4_pass As S post e_no
theorem nk_X4_pass : e_OK e_rf i_X4_pass 1 6 nw_X4_pass := fun G hG As S post h => kx_X4_pass G hG As S post e_no h
theorem nr_X4_pass : ∀ (As : List eV) (S : eM) (post : eQ), nw_X4_pass As S post → ∃ k i r, As = aR k i :: r ∧ e_kd k = 4 := fun As S post h => e_sfx_rec rfl As S post e_no h
def nw_X4_restore : eW := fun As S post => x_X4_restore As S post e_no
theorem nk_X4_restore : e_OK e_rf i_X4_restore 1 6 nw_X4_restore := fun G hG As S post h => kx_X4_restore G hG As S post e_no h
theorem nr_X4_restore : ∀ (As : List eV) (S : eM) (post : eQ), nw_X4_restore As S post → ∃ k i r, As = aR k i :: r ∧ e_kd k = 4 := fun As S post h => e_sfx_rec rfl As S post e_no h
