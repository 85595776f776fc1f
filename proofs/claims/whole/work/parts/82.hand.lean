/-! THE LAW'S HELPERS: their words, their handlers -/
theorem em_0 : "java/lang/IndexOutOfBoundsException" ∈ ex_tab := .head _
theorem em_1 : "java/lang/IllegalArgumentException" ∈ ex_tab := .tail _ (.head _)
theorem em_2 : "java/lang/UnsupportedOperationException" ∈ ex_tab := .tail _ (.tail _ (.head _))
theorem em_3 : "java/util/NoSuchElementException" ∈ ex_tab := .tail _ (.tail _ (.tail _ (.head _)))
theorem em_4 : "java/lang/ArithmeticException" ∈ ex_tab := .tail _ (.tail _ (.tail _ (.tail _ (.head _))))
theorem em_5 : "java/lang/IllegalStateException" ∈ ex_tab := .tail _ (.tail _ (.tail _ (.tail _ (.tail _ (.head _)))))
theorem w_initL : Cond.initialized RL ∈ lwG := wm 65 (by decide +kernel) (by decide +kernel)
theorem cl_13 : Cond.classLink RL 13 "java/lang/IndexOutOfBoundsException" ∈ lwG := wm 458 (by decide +kernel) (by decide +kernel)
theorem cl_15 : Cond.classLink RL 15 "java/lang/IllegalArgumentException" ∈ lwG := wm 538 (by decide +kernel) (by decide +kernel)
theorem cl_17 : Cond.classLink RL 17 "java/lang/UnsupportedOperationException" ∈ lwG := wm 539 (by decide +kernel) (by decide +kernel)
theorem cl_32 : Cond.classLink RL 32 "java/util/NoSuchElementException" ∈ lwG := wm 678 (by decide +kernel) (by decide +kernel)
theorem cl_121 : Cond.classLink RL 121 "java/lang/ArithmeticException" ∈ lwG := wm 1051 (by decide +kernel) (by decide +kernel)
theorem cl_131 : Cond.classLink RL 131 "java/lang/IllegalStateException" ∈ lwG := wm 1083 (by decide +kernel) (by decide +kernel)
theorem mh_addStone : MHw yL_addStone cL_addStone 5 (some .int) [(0, 10, 13, 13), (0, 10, 17, 15), (0, 10, 21, 17)] 4 := ⟨wm 456 (by decide +kernel) (by decide +kernel), w_initL, wm 457 (by decide +kernel) (by decide +kernel), by decide, by decide, by decide +kernel⟩
theorem hn_addStone_1 : Hnd IL_addStone 5 "java/lang/IndexOutOfBoundsException" 13 := ⟨[], [(0, 10, 17, 15), (0, 10, 21, 17)], (0, 10, 13, 13), rfl, fun y hy => absurd hy List.not_mem_nil, by decide, by decide, by decide, cl_13, em_0, rfl⟩
theorem hn_addStone_2 : Hnd IL_addStone 5 "java/lang/IllegalArgumentException" 17 := ⟨[(0, 10, 13, 13)], [(0, 10, 21, 17)], (0, 10, 17, 15), rfl, fun y hy => by
  simp only [List.mem_cons, List.not_mem_nil, or_false] at hy
  rcases hy with rfl
  · exact ⟨by decide, _, cl_13, em_0, by decide⟩, by decide, by decide, by decide, cl_15, em_1, rfl⟩
theorem hn_addStone_3 : Hnd IL_addStone 5 "java/lang/UnsupportedOperationException" 21 := ⟨[(0, 10, 13, 13), (0, 10, 17, 15)], [], (0, 10, 21, 17), rfl, fun y hy => by
  simp only [List.mem_cons, List.not_mem_nil, or_false] at hy
  rcases hy with rfl | rfl
  · exact ⟨by decide, _, cl_13, em_0, by decide⟩
  · exact ⟨by decide, _, cl_15, em_1, by decide⟩, by decide, by decide, by decide, cl_17, em_2, rfl⟩
theorem mh_addOfficer : MHw yL_addOfficer cL_addOfficer 4 (some .int) [(0, 9, 12, 15), (0, 9, 15, 17)] 3 := ⟨wm 642 (by decide +kernel) (by decide +kernel), w_initL, wm 643 (by decide +kernel) (by decide +kernel), by decide, by decide, by decide +kernel⟩
theorem hn_addOfficer_1 : Hnd IL_addOfficer 4 "java/lang/IllegalArgumentException" 12 := ⟨[], [(0, 9, 15, 17)], (0, 9, 12, 15), rfl, fun y hy => absurd hy List.not_mem_nil, by decide, by decide, by decide, cl_15, em_1, rfl⟩
theorem hn_addOfficer_2 : Hnd IL_addOfficer 4 "java/lang/UnsupportedOperationException" 15 := ⟨[(0, 9, 12, 15)], [], (0, 9, 15, 17), rfl, fun y hy => by
  simp only [List.mem_cons, List.not_mem_nil, or_false] at hy
  rcases hy with rfl
  · exact ⟨by decide, _, cl_15, em_1, by decide⟩, by decide, by decide, by decide, cl_17, em_2, rfl⟩
theorem mh_cellOf : MHw yL_cellOf cL_cellOf 4 (some .int) [(0, 9, 12, 13)] 3 := ⟨wm 657 (by decide +kernel) (by decide +kernel), w_initL, wm 658 (by decide +kernel) (by decide +kernel), by decide, by decide, by decide +kernel⟩
theorem hn_cellOf_1 : Hnd IL_cellOf 4 "java/lang/IndexOutOfBoundsException" 12 := ⟨[], [], (0, 9, 12, 13), rfl, fun y hy => absurd hy List.not_mem_nil, by decide, by decide, by decide, cl_13, em_0, rfl⟩
theorem mh_weightOf : MHw yL_weightOf cL_weightOf 4 (some .int) [(0, 9, 12, 13)] 3 := ⟨wm 669 (by decide +kernel) (by decide +kernel), w_initL, wm 670 (by decide +kernel) (by decide +kernel), by decide, by decide, by decide +kernel⟩
theorem hn_weightOf_1 : Hnd IL_weightOf 4 "java/lang/IndexOutOfBoundsException" 12 := ⟨[], [], (0, 9, 12, 13), rfl, fun y hy => absurd hy List.not_mem_nil, by decide, by decide, by decide, cl_13, em_0, rfl⟩
theorem mh_stoneIn : MHw yL_stoneIn cL_stoneIn 4 (some .int) [(0, 9, 12, 13), (0, 9, 15, 32)] 3 := ⟨wm 676 (by decide +kernel) (by decide +kernel), w_initL, wm 677 (by decide +kernel) (by decide +kernel), by decide, by decide, by decide +kernel⟩
theorem hn_stoneIn_1 : Hnd IL_stoneIn 4 "java/lang/IndexOutOfBoundsException" 12 := ⟨[], [(0, 9, 15, 32)], (0, 9, 12, 13), rfl, fun y hy => absurd hy List.not_mem_nil, by decide, by decide, by decide, cl_13, em_0, rfl⟩
theorem hn_stoneIn_2 : Hnd IL_stoneIn 4 "java/util/NoSuchElementException" 15 := ⟨[(0, 9, 12, 13)], [], (0, 9, 15, 32), rfl, fun y hy => by
  simp only [List.mem_cons, List.not_mem_nil, or_false] at hy
  rcases hy with rfl
  · exact ⟨by decide, _, cl_13, em_0, by decide⟩, by decide, by decide, by decide, cl_32, em_3, rfl⟩
theorem mh_rankOf : MHw yL_rankOf cL_rankOf 4 (some .int) [(0, 9, 12, 13)] 3 := ⟨wm 686 (by decide +kernel) (by decide +kernel), w_initL, wm 687 (by decide +kernel) (by decide +kernel), by decide, by decide, by decide +kernel⟩
theorem hn_rankOf_1 : Hnd IL_rankOf 4 "java/lang/IndexOutOfBoundsException" 12 := ⟨[], [], (0, 9, 12, 13), rfl, fun y hy => absurd hy List.not_mem_nil, by decide, by decide, by decide, cl_13, em_0, rfl⟩
theorem mh_petitionsOf : MHw yL_petitionsOf cL_petitionsOf 4 (some .int) [(0, 9, 12, 13)] 3 := ⟨wm 698 (by decide +kernel) (by decide +kernel), w_initL, wm 699 (by decide +kernel) (by decide +kernel), by decide, by decide, by decide +kernel⟩
theorem hn_petitionsOf_1 : Hnd IL_petitionsOf 4 "java/lang/IndexOutOfBoundsException" 12 := ⟨[], [], (0, 9, 12, 13), rfl, fun y hy => absurd hy List.not_mem_nil, by decide, by decide, by decide, cl_13, em_0, rfl⟩
theorem mh_file : MHw yL_file cL_file 7 (some .int) [(0, 14, 17, 13), (0, 14, 21, 15), (0, 14, 25, 17)] 6 := ⟨wm 705 (by decide +kernel) (by decide +kernel), w_initL, wm 706 (by decide +kernel) (by decide +kernel), by decide, by decide, by decide +kernel⟩
theorem hn_file_1 : Hnd IL_file 9 "java/lang/IndexOutOfBoundsException" 17 := ⟨[], [(0, 14, 21, 15), (0, 14, 25, 17)], (0, 14, 17, 13), rfl, fun y hy => absurd hy List.not_mem_nil, by decide, by decide, by decide, cl_13, em_0, rfl⟩
theorem hn_file_2 : Hnd IL_file 9 "java/lang/IllegalArgumentException" 21 := ⟨[(0, 14, 17, 13)], [(0, 14, 25, 17)], (0, 14, 21, 15), rfl, fun y hy => by
  simp only [List.mem_cons, List.not_mem_nil, or_false] at hy
  rcases hy with rfl
  · exact ⟨by decide, _, cl_13, em_0, by decide⟩, by decide, by decide, by decide, cl_15, em_1, rfl⟩
theorem hn_file_3 : Hnd IL_file 9 "java/lang/UnsupportedOperationException" 25 := ⟨[(0, 14, 17, 13), (0, 14, 21, 15)], [], (0, 14, 25, 17), rfl, fun y hy => by
  simp only [List.mem_cons, List.not_mem_nil, or_false] at hy
  rcases hy with rfl | rfl
  · exact ⟨by decide, _, cl_13, em_0, by decide⟩
  · exact ⟨by decide, _, cl_15, em_1, by decide⟩, by decide, by decide, by decide, cl_17, em_2, rfl⟩
theorem mh_vote : MHw yL_vote cL_vote 6 (some .int) [(0, 12, 15, 13), (0, 12, 19, 32), (0, 12, 23, 17)] 5 := ⟨wm 736 (by decide +kernel) (by decide +kernel), w_initL, wm 737 (by decide +kernel) (by decide +kernel), by decide, by decide, by decide +kernel⟩
theorem hn_vote_1 : Hnd IL_vote 7 "java/lang/IndexOutOfBoundsException" 15 := ⟨[], [(0, 12, 19, 32), (0, 12, 23, 17)], (0, 12, 15, 13), rfl, fun y hy => absurd hy List.not_mem_nil, by decide, by decide, by decide, cl_13, em_0, rfl⟩
theorem hn_vote_2 : Hnd IL_vote 7 "java/util/NoSuchElementException" 19 := ⟨[(0, 12, 15, 13)], [(0, 12, 23, 17)], (0, 12, 19, 32), rfl, fun y hy => by
  simp only [List.mem_cons, List.not_mem_nil, or_false] at hy
  rcases hy with rfl
  · exact ⟨by decide, _, cl_13, em_0, by decide⟩, by decide, by decide, by decide, cl_32, em_3, rfl⟩
theorem hn_vote_3 : Hnd IL_vote 7 "java/lang/UnsupportedOperationException" 23 := ⟨[(0, 12, 15, 13), (0, 12, 19, 32)], [], (0, 12, 23, 17), rfl, fun y hy => by
  simp only [List.mem_cons, List.not_mem_nil, or_false] at hy
  rcases hy with rfl | rfl
  · exact ⟨by decide, _, cl_13, em_0, by decide⟩
  · exact ⟨by decide, _, cl_32, em_3, by decide⟩, by decide, by decide, by decide, cl_17, em_2, rfl⟩
theorem mh_cite : MHw yL_cite cL_cite 5 (some .int) [(0, 10, 13, 32), (0, 10, 17, 17)] 4 := ⟨wm 781 (by decide +kernel) (by decide +kernel), w_initL, wm 782 (by decide +kernel) (by decide +kernel), by decide, by decide, by decide +kernel⟩
theorem hn_cite_1 : Hnd IL_cite 5 "java/util/NoSuchElementException" 13 := ⟨[], [(0, 10, 17, 17)], (0, 10, 13, 32), rfl, fun y hy => absurd hy List.not_mem_nil, by decide, by decide, by decide, cl_32, em_3, rfl⟩
theorem hn_cite_2 : Hnd IL_cite 5 "java/lang/UnsupportedOperationException" 17 := ⟨[(0, 10, 13, 32)], [], (0, 10, 17, 17), rfl, fun y hy => by
  simp only [List.mem_cons, List.not_mem_nil, or_false] at hy
  rcases hy with rfl
  · exact ⟨by decide, _, cl_32, em_3, by decide⟩, by decide, by decide, by decide, cl_17, em_2, rfl⟩
theorem mh_veto : MHw yL_veto cL_veto 5 (some .int) [(0, 10, 13, 13), (0, 10, 17, 32), (0, 10, 21, 17)] 4 := ⟨wm 814 (by decide +kernel) (by decide +kernel), w_initL, wm 815 (by decide +kernel) (by decide +kernel), by decide, by decide, by decide +kernel⟩
theorem hn_veto_1 : Hnd IL_veto 5 "java/lang/IndexOutOfBoundsException" 13 := ⟨[], [(0, 10, 17, 32), (0, 10, 21, 17)], (0, 10, 13, 13), rfl, fun y hy => absurd hy List.not_mem_nil, by decide, by decide, by decide, cl_13, em_0, rfl⟩
theorem hn_veto_2 : Hnd IL_veto 5 "java/util/NoSuchElementException" 17 := ⟨[(0, 10, 13, 13)], [(0, 10, 21, 17)], (0, 10, 17, 32), rfl, fun y hy => by
  simp only [List.mem_cons, List.not_mem_nil, or_false] at hy
  rcases hy with rfl
  · exact ⟨by decide, _, cl_13, em_0, by decide⟩, by decide, by decide, by decide, cl_32, em_3, rfl⟩
theorem hn_veto_3 : Hnd IL_veto 5 "java/lang/UnsupportedOperationException" 21 := ⟨[(0, 10, 13, 13), (0, 10, 17, 32)], [], (0, 10, 21, 17), rfl, fun y hy => by
  simp only [List.mem_cons, List.not_mem_nil, or_false] at hy
  rcases hy with rfl | rfl
  · exact ⟨by decide, _, cl_13, em_0, by decide⟩
  · exact ⟨by decide, _, cl_32, em_3, by decide⟩, by decide, by decide, by decide, cl_17, em_2, rfl⟩
theorem mh_withdraw : MHw yL_withdraw cL_withdraw 4 (some .int) [(0, 9, 12, 32)] 3 := ⟨wm 829 (by decide +kernel) (by decide +kernel), w_initL, wm 830 (by decide +kernel) (by decide +kernel), by decide, by decide, by decide +kernel⟩
theorem hn_withdraw_1 : Hnd IL_withdraw 4 "java/util/NoSuchElementException" 12 := ⟨[], [], (0, 9, 12, 32), rfl, fun y hy => absurd hy List.not_mem_nil, by decide, by decide, by decide, cl_32, em_3, rfl⟩
theorem mh_petitionAt : MHw yL_petitionAt cL_petitionAt 4 (some .int) [(0, 9, 12, 32)] 3 := ⟨wm 840 (by decide +kernel) (by decide +kernel), w_initL, wm 841 (by decide +kernel) (by decide +kernel), by decide, by decide, by decide +kernel⟩
theorem hn_petitionAt_1 : Hnd IL_petitionAt 4 "java/util/NoSuchElementException" 12 := ⟨[], [], (0, 9, 12, 32), rfl, fun y hy => absurd hy List.not_mem_nil, by decide, by decide, by decide, cl_32, em_3, rfl⟩
theorem mh_positionOf : MHw yL_positionOf cL_positionOf 4 (some .int) [(0, 9, 12, 32)] 3 := ⟨wm 848 (by decide +kernel) (by decide +kernel), w_initL, wm 849 (by decide +kernel) (by decide +kernel), by decide, by decide, by decide +kernel⟩
theorem hn_positionOf_1 : Hnd IL_positionOf 4 "java/util/NoSuchElementException" 12 := ⟨[], [], (0, 9, 12, 32), rfl, fun y hy => absurd hy List.not_mem_nil, by decide, by decide, by decide, cl_32, em_3, rfl⟩
theorem mh_stoneOf : MHw yL_stoneOf cL_stoneOf 4 (some .int) [(0, 9, 12, 32)] 3 := ⟨wm 861 (by decide +kernel) (by decide +kernel), w_initL, wm 862 (by decide +kernel) (by decide +kernel), by decide, by decide, by decide +kernel⟩
theorem hn_stoneOf_1 : Hnd IL_stoneOf 4 "java/util/NoSuchElementException" 12 := ⟨[], [], (0, 9, 12, 32), rfl, fun y hy => absurd hy List.not_mem_nil, by decide, by decide, by decide, cl_32, em_3, rfl⟩
theorem mh_targetOf : MHw yL_targetOf cL_targetOf 4 (some .int) [(0, 9, 12, 32)] 3 := ⟨wm 868 (by decide +kernel) (by decide +kernel), w_initL, wm 869 (by decide +kernel) (by decide +kernel), by decide, by decide, by decide +kernel⟩
theorem hn_targetOf_1 : Hnd IL_targetOf 4 "java/util/NoSuchElementException" 12 := ⟨[], [], (0, 9, 12, 32), rfl, fun y hy => absurd hy List.not_mem_nil, by decide, by decide, by decide, cl_32, em_3, rfl⟩
theorem mh_votesFor : MHw yL_votesFor cL_votesFor 4 (some .int) [(0, 9, 12, 32)] 3 := ⟨wm 875 (by decide +kernel) (by decide +kernel), w_initL, wm 876 (by decide +kernel) (by decide +kernel), by decide, by decide, by decide +kernel⟩
theorem hn_votesFor_1 : Hnd IL_votesFor 4 "java/util/NoSuchElementException" 12 := ⟨[], [], (0, 9, 12, 32), rfl, fun y hy => absurd hy List.not_mem_nil, by decide, by decide, by decide, cl_32, em_3, rfl⟩
theorem mh_votesAgainst : MHw yL_votesAgainst cL_votesAgainst 4 (some .int) [(0, 9, 12, 32)] 3 := ⟨wm 883 (by decide +kernel) (by decide +kernel), w_initL, wm 884 (by decide +kernel) (by decide +kernel), by decide, by decide, by decide +kernel⟩
theorem hn_votesAgainst_1 : Hnd IL_votesAgainst 4 "java/util/NoSuchElementException" 12 := ⟨[], [], (0, 9, 12, 32), rfl, fun y hy => absurd hy List.not_mem_nil, by decide, by decide, by decide, cl_32, em_3, rfl⟩
theorem mh_wouldBeGranted : MHw yL_wouldBeGranted cL_wouldBeGranted 4 (some .int) [(0, 16, 19, 32)] 3 := ⟨wm 891 (by decide +kernel) (by decide +kernel), w_initL, wm 892 (by decide +kernel) (by decide +kernel), by decide, by decide, by decide +kernel⟩
theorem hn_wouldBeGranted_1 : Hnd IL_wouldBeGranted 4 "java/util/NoSuchElementException" 19 := ⟨[], [], (0, 16, 19, 32), rfl, fun y hy => absurd hy List.not_mem_nil, by decide, by decide, by decide, cl_32, em_3, rfl⟩
theorem mh_setQuorum : MHw yL_setQuorum cL_setQuorum 4 (some .int) [(0, 9, 12, 15), (0, 9, 15, 17)] 3 := ⟨wm 909 (by decide +kernel) (by decide +kernel), w_initL, wm 910 (by decide +kernel) (by decide +kernel), by decide, by decide, by decide +kernel⟩
theorem hn_setQuorum_1 : Hnd IL_setQuorum 4 "java/lang/IllegalArgumentException" 12 := ⟨[], [(0, 9, 15, 17)], (0, 9, 12, 15), rfl, fun y hy => absurd hy List.not_mem_nil, by decide, by decide, by decide, cl_15, em_1, rfl⟩
theorem hn_setQuorum_2 : Hnd IL_setQuorum 4 "java/lang/UnsupportedOperationException" 15 := ⟨[(0, 9, 12, 15)], [], (0, 9, 15, 17), rfl, fun y hy => by
  simp only [List.mem_cons, List.not_mem_nil, or_false] at hy
  rcases hy with rfl
  · exact ⟨by decide, _, cl_15, em_1, by decide⟩, by decide, by decide, by decide, cl_17, em_2, rfl⟩
theorem mh_decide : MHw yL_decide cL_decide 3 (some .int) [(0, 8, 11, 17)] 2 := ⟨wm 920 (by decide +kernel) (by decide +kernel), w_initL, wm 921 (by decide +kernel) (by decide +kernel), by decide, by decide, by decide +kernel⟩
theorem hn_decide_1 : Hnd IL_decide 3 "java/lang/UnsupportedOperationException" 11 := ⟨[], [], (0, 8, 11, 17), rfl, fun y hy => absurd hy List.not_mem_nil, by decide, by decide, by decide, cl_17, em_2, rfl⟩
theorem mh_isGranted : MHw yL_isGranted cL_isGranted 4 (some .int) [(0, 16, 19, 13)] 3 := ⟨wm 949 (by decide +kernel) (by decide +kernel), w_initL, wm 950 (by decide +kernel) (by decide +kernel), by decide, by decide, by decide +kernel⟩
theorem hn_isGranted_1 : Hnd IL_isGranted 4 "java/lang/IndexOutOfBoundsException" 19 := ⟨[], [], (0, 16, 19, 13), rfl, fun y hy => absurd hy List.not_mem_nil, by decide, by decide, by decide, cl_13, em_0, rfl⟩
theorem mh_isCarriedOut : MHw yL_isCarriedOut cL_isCarriedOut 4 (some .int) [(0, 16, 19, 13)] 3 := ⟨wm 961 (by decide +kernel) (by decide +kernel), w_initL, wm 962 (by decide +kernel) (by decide +kernel), by decide, by decide, by decide +kernel⟩
theorem hn_isCarriedOut_1 : Hnd IL_isCarriedOut 4 "java/lang/IndexOutOfBoundsException" 19 := ⟨[], [], (0, 16, 19, 13), rfl, fun y hy => absurd hy List.not_mem_nil, by decide, by decide, by decide, cl_13, em_0, rfl⟩
theorem mh_citationCount : MHw yL_citationCount cL_citationCount 4 (some .int) [(0, 9, 12, 13)] 3 := ⟨wm 968 (by decide +kernel) (by decide +kernel), w_initL, wm 969 (by decide +kernel) (by decide +kernel), by decide, by decide, by decide +kernel⟩
theorem hn_citationCount_1 : Hnd IL_citationCount 4 "java/lang/IndexOutOfBoundsException" 12 := ⟨[], [], (0, 9, 12, 13), rfl, fun y hy => absurd hy List.not_mem_nil, by decide, by decide, by decide, cl_13, em_0, rfl⟩
theorem mh_citation : MHw yL_citation cL_citation 5 (some .int) [(0, 10, 13, 13), (0, 10, 17, 32)] 4 := ⟨wm 975 (by decide +kernel) (by decide +kernel), w_initL, wm 976 (by decide +kernel) (by decide +kernel), by decide, by decide, by decide +kernel⟩
theorem hn_citation_1 : Hnd IL_citation 5 "java/lang/IndexOutOfBoundsException" 13 := ⟨[], [(0, 10, 17, 32)], (0, 10, 13, 13), rfl, fun y hy => absurd hy List.not_mem_nil, by decide, by decide, by decide, cl_13, em_0, rfl⟩
theorem hn_citation_2 : Hnd IL_citation 5 "java/util/NoSuchElementException" 17 := ⟨[(0, 10, 13, 13)], [], (0, 10, 17, 32), rfl, fun y hy => by
  simp only [List.mem_cons, List.not_mem_nil, or_false] at hy
  rcases hy with rfl
  · exact ⟨by decide, _, cl_13, em_0, by decide⟩, by decide, by decide, by decide, cl_32, em_3, rfl⟩
theorem mh_citedBy : MHw yL_citedBy cL_citedBy 4 (some .int) [(0, 9, 12, 13)] 3 := ⟨wm 985 (by decide +kernel) (by decide +kernel), w_initL, wm 986 (by decide +kernel) (by decide +kernel), by decide, by decide, by decide +kernel⟩
theorem hn_citedBy_1 : Hnd IL_citedBy 4 "java/lang/IndexOutOfBoundsException" 12 := ⟨[], [], (0, 9, 12, 13), rfl, fun y hy => absurd hy List.not_mem_nil, by decide, by decide, by decide, cl_13, em_0, rfl⟩
theorem mh_depth : MHw yL_depth cL_depth 4 (some .int) [(0, 9, 12, 13)] 3 := ⟨wm 995 (by decide +kernel) (by decide +kernel), w_initL, wm 996 (by decide +kernel) (by decide +kernel), by decide, by decide, by decide +kernel⟩
theorem hn_depth_1 : Hnd IL_depth 4 "java/lang/IndexOutOfBoundsException" 12 := ⟨[], [], (0, 9, 12, 13), rfl, fun y hy => absurd hy List.not_mem_nil, by decide, by decide, by decide, cl_13, em_0, rfl⟩
theorem mh_isBasedOn : MHw yL_isBasedOn cL_isBasedOn 5 (some .int) [(0, 17, 20, 13)] 4 := ⟨wm 1002 (by decide +kernel) (by decide +kernel), w_initL, wm 1003 (by decide +kernel) (by decide +kernel), by decide, by decide, by decide +kernel⟩
theorem hn_isBasedOn_1 : Hnd IL_isBasedOn 5 "java/lang/IndexOutOfBoundsException" 20 := ⟨[], [], (0, 17, 20, 13), rfl, fun y hy => absurd hy List.not_mem_nil, by decide, by decide, by decide, cl_13, em_0, rfl⟩
theorem mh_influence : MHw yL_influence cL_influence 4 (some .int) [(0, 9, 12, 13)] 3 := ⟨wm 1018 (by decide +kernel) (by decide +kernel), w_initL, wm 1019 (by decide +kernel) (by decide +kernel), by decide, by decide, by decide +kernel⟩
theorem hn_influence_1 : Hnd IL_influence 4 "java/lang/IndexOutOfBoundsException" 12 := ⟨[], [], (0, 9, 12, 13), rfl, fun y hy => absurd hy List.not_mem_nil, by decide, by decide, by decide, cl_13, em_0, rfl⟩
theorem mh_influenceByMarking : MHw yL_influenceByMarking cL_influenceByMarking 4 (some .int) [(0, 9, 12, 13)] 3 := ⟨wm 1025 (by decide +kernel) (by decide +kernel), w_initL, wm 1026 (by decide +kernel) (by decide +kernel), by decide, by decide, by decide +kernel⟩
theorem hn_influenceByMarking_1 : Hnd IL_influenceByMarking 4 "java/lang/IndexOutOfBoundsException" 12 := ⟨[], [], (0, 9, 12, 13), rfl, fun y hy => absurd hy List.not_mem_nil, by decide, by decide, by decide, cl_13, em_0, rfl⟩
theorem mh_rulingByInfluence : MHw yL_rulingByInfluence cL_rulingByInfluence 4 (some .int) [(0, 9, 12, 32)] 3 := ⟨wm 1037 (by decide +kernel) (by decide +kernel), w_initL, wm 1038 (by decide +kernel) (by decide +kernel), by decide, by decide, by decide +kernel⟩
theorem hn_rulingByInfluence_1 : Hnd IL_rulingByInfluence 4 "java/util/NoSuchElementException" 12 := ⟨[], [], (0, 9, 12, 32), rfl, fun y hy => absurd hy List.not_mem_nil, by decide, by decide, by decide, cl_32, em_3, rfl⟩
theorem mh_meanVotes : MHw yL_meanVotes cL_meanVotes 3 (some .int) [(0, 7, 10, 121)] 2 := ⟨wm 1049 (by decide +kernel) (by decide +kernel), w_initL, wm 1050 (by decide +kernel) (by decide +kernel), by decide, by decide, by decide +kernel⟩
theorem hn_meanVotes_1 : Hnd IL_meanVotes 3 "java/lang/ArithmeticException" 10 := ⟨[], [], (0, 7, 10, 121), rfl, fun y hy => absurd hy List.not_mem_nil, by decide, by decide, by decide, cl_121, em_4, rfl⟩
theorem mh_grantedShare : MHw yL_grantedShare cL_grantedShare 3 (some .int) [(0, 8, 11, 121)] 2 := ⟨wm 1073 (by decide +kernel) (by decide +kernel), w_initL, wm 1074 (by decide +kernel) (by decide +kernel), by decide, by decide, by decide +kernel⟩
theorem hn_grantedShare_1 : Hnd IL_grantedShare 3 "java/lang/ArithmeticException" 11 := ⟨[], [], (0, 8, 11, 121), rfl, fun y hy => absurd hy List.not_mem_nil, by decide, by decide, by decide, cl_121, em_4, rfl⟩
theorem mh_feed : MHw yL_feed cL_feed 4 (some .int) [(0, 9, 12, 131)] 3 := ⟨wm 1081 (by decide +kernel) (by decide +kernel), w_initL, wm 1082 (by decide +kernel) (by decide +kernel), by decide, by decide, by decide +kernel⟩
theorem hn_feed_1 : Hnd IL_feed 4 "java/lang/IllegalStateException" 12 := ⟨[], [], (0, 9, 12, 131), rfl, fun y hy => absurd hy List.not_mem_nil, by decide, by decide, by decide, cl_131, em_5, rfl⟩
theorem mh_execute : MHw yL_execute cL_execute 3 (some .int) [(0, 8, 11, 15), (0, 8, 14, 17)] 2 := ⟨wm 1109 (by decide +kernel) (by decide +kernel), w_initL, wm 1110 (by decide +kernel) (by decide +kernel), by decide, by decide, by decide +kernel⟩
theorem hn_execute_1 : Hnd IL_execute 3 "java/lang/IllegalArgumentException" 11 := ⟨[], [(0, 8, 14, 17)], (0, 8, 11, 15), rfl, fun y hy => absurd hy List.not_mem_nil, by decide, by decide, by decide, cl_15, em_1, rfl⟩
theorem hn_execute_2 : Hnd IL_execute 3 "java/lang/UnsupportedOperationException" 14 := ⟨[(0, 8, 11, 15)], [], (0, 8, 14, 17), rfl, fun y hy => by
  simp only [List.mem_cons, List.not_mem_nil, or_false] at hy
  rcases hy with rfl
  · exact ⟨by decide, _, cl_15, em_1, by decide⟩, by decide, by decide, by decide, cl_17, em_2, rfl⟩
theorem mh_faultPosition : MHw yL_faultPosition cL_faultPosition 3 (some .int) [(0, 8, 11, 32)] 2 := ⟨wm 1235 (by decide +kernel) (by decide +kernel), w_initL, wm 1236 (by decide +kernel) (by decide +kernel), by decide, by decide, by decide +kernel⟩
theorem hn_faultPosition_1 : Hnd IL_faultPosition 3 "java/util/NoSuchElementException" 11 := ⟨[], [], (0, 8, 11, 32), rfl, fun y hy => absurd hy List.not_mem_nil, by decide, by decide, by decide, cl_32, em_3, rfl⟩
theorem mh_writePetition : MHw yL_writePetition cL_writePetition 4 (some .int) [(0, 9, 12, 32)] 3 := ⟨wm 1243 (by decide +kernel) (by decide +kernel), w_initL, wm 1244 (by decide +kernel) (by decide +kernel), by decide, by decide, by decide +kernel⟩
theorem hn_writePetition_1 : Hnd IL_writePetition 4 "java/util/NoSuchElementException" 12 := ⟨[], [], (0, 9, 12, 32), rfl, fun y hy => absurd hy List.not_mem_nil, by decide, by decide, by decide, cl_32, em_3, rfl⟩
theorem mh_writeRow : MHw yL_writeRow cL_writeRow 4 (some .int) [(0, 9, 12, 13)] 3 := ⟨wm 1260 (by decide +kernel) (by decide +kernel), w_initL, wm 1261 (by decide +kernel) (by decide +kernel), by decide, by decide, by decide +kernel⟩
theorem hn_writeRow_1 : Hnd IL_writeRow 4 "java/lang/IndexOutOfBoundsException" 12 := ⟨[], [], (0, 9, 12, 13), rfl, fun y hy => absurd hy List.not_mem_nil, by decide, by decide, by decide, cl_13, em_0, rfl⟩
theorem mh_lineCharacter : MHw yL_lineCharacter cL_lineCharacter 4 (some .int) [(0, 9, 12, 13)] 3 := ⟨wm 1269 (by decide +kernel) (by decide +kernel), w_initL, wm 1270 (by decide +kernel) (by decide +kernel), by decide, by decide, by decide +kernel⟩
theorem hn_lineCharacter_1 : Hnd IL_lineCharacter 4 "java/lang/IndexOutOfBoundsException" 12 := ⟨[], [], (0, 9, 12, 13), rfl, fun y hy => absurd hy List.not_mem_nil, by decide, by decide, by decide, cl_13, em_0, rfl⟩
theorem mh_denial : MHw yL_denial cL_denial 3 (some .int) [(0, 8, 11, 32)] 2 := ⟨wm 1278 (by decide +kernel) (by decide +kernel), w_initL, wm 1279 (by decide +kernel) (by decide +kernel), by decide, by decide, by decide +kernel⟩
theorem hn_denial_1 : Hnd IL_denial 3 "java/util/NoSuchElementException" 11 := ⟨[], [], (0, 8, 11, 32), rfl, fun y hy => absurd hy List.not_mem_nil, by decide, by decide, by decide, cl_32, em_3, rfl⟩
theorem mh_denialDetail : MHw yL_denialDetail cL_denialDetail 3 (some .int) [(0, 8, 11, 32)] 2 := ⟨wm 1290 (by decide +kernel) (by decide +kernel), w_initL, wm 1291 (by decide +kernel) (by decide +kernel), by decide, by decide, by decide +kernel⟩
theorem hn_denialDetail_1 : Hnd IL_denialDetail 3 "java/util/NoSuchElementException" 11 := ⟨[], [], (0, 8, 11, 32), rfl, fun y hy => absurd hy List.not_mem_nil, by decide, by decide, by decide, cl_32, em_3, rfl⟩
theorem mh_denialCause : MHw yL_denialCause cL_denialCause 3 (some .int) [(0, 8, 11, 32)] 2 := ⟨wm 1297 (by decide +kernel) (by decide +kernel), w_initL, wm 1298 (by decide +kernel) (by decide +kernel), by decide, by decide, by decide +kernel⟩
theorem hn_denialCause_1 : Hnd IL_denialCause 3 "java/util/NoSuchElementException" 11 := ⟨[], [], (0, 8, 11, 32), rfl, fun y hy => absurd hy List.not_mem_nil, by decide, by decide, by decide, cl_32, em_3, rfl⟩
theorem mh_denialCauseDetail : MHw yL_denialCauseDetail cL_denialCauseDetail 3 (some .int) [(0, 8, 11, 32)] 2 := ⟨wm 1309 (by decide +kernel) (by decide +kernel), w_initL, wm 1310 (by decide +kernel) (by decide +kernel), by decide, by decide, by decide +kernel⟩
theorem hn_denialCauseDetail_1 : Hnd IL_denialCauseDetail 3 "java/util/NoSuchElementException" 11 := ⟨[], [], (0, 8, 11, 32), rfl, fun y hy => absurd hy List.not_mem_nil, by decide, by decide, by decide, cl_32, em_3, rfl⟩
theorem mh_undo : MHw yL_undo cL_undo 3 (some .int) [(0, 8, 11, 131)] 2 := ⟨wm 1316 (by decide +kernel) (by decide +kernel), w_initL, wm 1317 (by decide +kernel) (by decide +kernel), by decide, by decide, by decide +kernel⟩
theorem hn_undo_1 : Hnd IL_undo 3 "java/lang/IllegalStateException" 11 := ⟨[], [], (0, 8, 11, 131), rfl, fun y hy => absurd hy List.not_mem_nil, by decide, by decide, by decide, cl_131, em_5, rfl⟩
theorem mh_restoreSnapshot : MHw yL_restoreSnapshot cL_restoreSnapshot 3 (some .int) [(0, 8, 11, 131)] 2 := ⟨wm 1328 (by decide +kernel) (by decide +kernel), w_initL, wm 1329 (by decide +kernel) (by decide +kernel), by decide, by decide, by decide +kernel⟩
theorem hn_restoreSnapshot_1 : Hnd IL_restoreSnapshot 3 "java/lang/IllegalStateException" 11 := ⟨[], [], (0, 8, 11, 131), rfl, fun y hy => absurd hy List.not_mem_nil, by decide, by decide, by decide, cl_131, em_5, rfl⟩
