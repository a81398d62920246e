set_option maxRecDepth 100000
/-! calls: from the call to the callee's first place (by wip/whole/gencalls.py) -/
theorem c_Analysis_isPossible (d : Nat)  (S : jS) : jcall (d + 1) 1 [.ref 39] S = jval d 1 0 [.ref 39] [] S := rfl
theorem c_Analysis_behind (d : Nat) (x1 : Int32) (S : jS) : jcall (d + 1) 2 [.ref 39, .int x1] S = jval d 2 0 [.ref 39, .int x1] [] S := rfl
theorem c_Analysis_allRounds (d : Nat)  (S : jS) : jcall (d + 1) 3 [.ref 39] S = jval d 3 0 [.ref 39] [] S := rfl
theorem c_Analysis_mostRounds (d : Nat)  (S : jS) : jcall (d + 1) 4 [.ref 39] S = jval d 4 0 [.ref 39] [] S := rfl
theorem c_Analysis_raisedLength (d : Nat) (x1 : Int32) (S : jS) : jcall (d + 1) 5 [.ref 39, .int x1] S = jval d 5 0 [.ref 39, .int x1] [] S := rfl
theorem c_Analysis_raisedLetter (d : Nat) (x1 : Int32) (x2 : Int32) (S : jS) : jcall (d + 1) 6 [.ref 39, .int x1, .int x2] S = jval d 6 0 [.ref 39, .int x1, .int x2, jjunk] [] S := rfl
theorem c_Analysis_refresh (d : Nat) (a1 : Nat) (S : jS) : jcall (d + 1) 7 [.ref 39, .ref a1] S = jval d 7 0 [.ref 39, .ref a1, jjunk] [] S := rfl
theorem c_Analysis_block (d : Nat) (a1 : Nat) (x2 : Int32) (S : jS) : jcall (d + 1) 8 [.ref 39, .ref a1, .int x2] S = jval d 8 0 [.ref 39, .ref a1, .int x2, jjunk, jjunk] [] S := rfl
theorem c_Analysis_assign (d : Nat) (a1 : Nat) (S : jS) : jcall (d + 1) 9 [.ref 39, .ref a1] S = jval d 9 0 [.ref 39, .ref a1, jjunk, jjunk, jjunk, jjunk, jjunk] [] S := rfl
theorem c_Analysis_look (d : Nat) (a1 : Nat) (S : jS) : jcall (d + 1) 10 [.ref 39, .ref a1] S = jval d 10 0 [.ref 39, .ref a1, jjunk, jjunk, jjunk] [] S := rfl
theorem c_Analysis_isSmaller (d : Nat) (x1 : Int32) (x2 : Int32) (S : jS) : jcall (d + 1) 11 [.ref 39, .int x1, .int x2] S = jval d 11 0 [.ref 39, .int x1, .int x2, jjunk] [] S := rfl
theorem c_Analysis_choose (d : Nat) (a1 : Nat) (x2 : Int32) (S : jS) : jcall (d + 1) 12 [.ref 39, .ref a1, .int x2] S = jval d 12 0 [.ref 39, .ref a1, .int x2, jjunk, jjunk, jjunk] [] S := rfl
theorem c_Analysis_loop (d : Nat) (a1 : Nat) (x2 : Int32) (S : jS) : jcall (d + 1) 13 [.ref 39, .ref a1, .int x2] S = jval d 13 0 [.ref 39, .ref a1, .int x2, jjunk, jjunk, jjunk] [] S := rfl
theorem c_Analysis_grow (d : Nat) (a1 : Nat) (x2 : Int32) (S : jS) : jcall (d + 1) 14 [.ref 39, .ref a1, .int x2] S = jval d 14 0 [.ref 39, .ref a1, .int x2, jjunk, jjunk, jjunk] [] S := rfl
theorem c_Analysis_narrow (d : Nat) (a1 : Nat) (x2 : Int32) (S : jS) : jcall (d + 1) 15 [.ref 39, .ref a1, .int x2] S = jval d 15 0 [.ref 39, .ref a1, .int x2, jjunk] [] S := rfl
theorem c_Lang_init (d : Nat) (a0 : Nat) (S : jS) : jcall (d + 1) 16 [.ref a0] S = jval d 16 0 [.ref a0] [] S := rfl
theorem c_Lang_makeAll (d : Nat) (a0 : Nat) (S : jS) : jcall (d + 1) 17 [.ref a0] S = jval d 17 0 [.ref a0] [] S := rfl
theorem c_Lang_makeNothing (d : Nat) (a0 : Nat) (S : jS) : jcall (d + 1) 18 [.ref a0] S = jval d 18 0 [.ref a0] [] S := rfl
theorem c_Lang_makeEmptyText (d : Nat) (a0 : Nat) (S : jS) : jcall (d + 1) 19 [.ref a0] S = jval d 19 0 [.ref a0] [] S := rfl
theorem c_Lang_set (d : Nat) (a0 : Nat) (a1 : Nat) (S : jS) : jcall (d + 1) 20 [.ref a0, .ref a1] S = jval d 20 0 [.ref a0, .ref a1] [] S := rfl
theorem c_Lang_to (d : Nat) (a0 : Nat) (x1 : Int32) (x2 : Int32) (S : jS) : jcall (d + 1) 21 [.ref a0, .int x1, .int x2] S = jval d 21 0 [.ref a0, .int x1, .int x2] [] S := rfl
theorem c_Lang_isEnd (d : Nat) (a0 : Nat) (x1 : Int32) (S : jS) : jcall (d + 1) 22 [.ref a0, .int x1] S = jval d 22 0 [.ref a0, .int x1] [] S := rfl
theorem c_Lang_isSame (d : Nat) (a0 : Nat) (a1 : Nat) (S : jS) : jcall (d + 1) 23 [.ref a0, .ref a1] S = jval d 23 0 [.ref a0, .ref a1] [] S := rfl
theorem c_Lang_isAll (d : Nat) (a0 : Nat) (S : jS) : jcall (d + 1) 24 [.ref a0] S = jval d 24 0 [.ref a0] [] S := rfl
theorem c_Lang_isNothing (d : Nat) (a0 : Nat) (S : jS) : jcall (d + 1) 25 [.ref a0] S = jval d 25 0 [.ref a0] [] S := rfl
theorem c_Lang_isEmptyText (d : Nat) (a0 : Nat) (S : jS) : jcall (d + 1) 26 [.ref a0] S = jval d 26 0 [.ref a0] [] S := rfl
theorem c_Maker_begin (d : Nat) (x1 : Int32) (S : jS) : jcall (d + 1) 28 [.ref 19, .int x1] S = jval d 28 0 [.ref 19, .int x1, jjunk] [] S := rfl
theorem c_Maker_addStep (d : Nat) (x1 : Int32) (x2 : Int32) (x3 : Int32) (S : jS) : jcall (d + 1) 29 [.ref 19, .int x1, .int x2, .int x3] S = jval d 29 0 [.ref 19, .int x1, .int x2, .int x3] [] S := rfl
theorem c_Maker_join (d : Nat) (a1 : Nat) (a2 : Nat) (a3 : Nat) (S : jS) : jcall (d + 1) 30 [.ref 19, .ref a1, .ref a2, .ref a3] S = jval d 30 0 [.ref 19, .ref a1, .ref a2, .ref a3] [] S := rfl
theorem c_Maker_both (d : Nat) (a1 : Nat) (a2 : Nat) (a3 : Nat) (S : jS) : jcall (d + 1) 31 [.ref 19, .ref a1, .ref a2, .ref a3] S = jval d 31 0 [.ref 19, .ref a1, .ref a2, .ref a3] [] S := rfl
theorem c_Maker_less (d : Nat) (a1 : Nat) (a2 : Nat) (a3 : Nat) (S : jS) : jcall (d + 1) 32 [.ref 19, .ref a1, .ref a2, .ref a3] S = jval d 32 0 [.ref 19, .ref a1, .ref a2, .ref a3] [] S := rfl
theorem c_Maker_pair (d : Nat) (a1 : Nat) (a2 : Nat) (x3 : Int32) (S : jS) : jcall (d + 1) 33 [.ref 19, .ref a1, .ref a2, .int x3] S = jval d 33 0 [.ref 19, .ref a1, .ref a2, .int x3, jjunk, jjunk, jjunk, jjunk] [] S := rfl
theorem c_Maker_chain (d : Nat) (a1 : Nat) (a2 : Nat) (a3 : Nat) (S : jS) : jcall (d + 1) 34 [.ref 19, .ref a1, .ref a2, .ref a3] S = jval d 34 0 [.ref 19, .ref a1, .ref a2, .ref a3, jjunk, jjunk, jjunk] [] S := rfl
theorem c_Maker_replace (d : Nat) (a1 : Nat) (x2 : Int32) (x3 : Int32) (a4 : Nat) (S : jS) : jcall (d + 1) 35 [.ref 19, .ref a1, .int x2, .int x3, .ref a4] S = jval d 35 0 [.ref 19, .ref a1, .int x2, .int x3, .ref a4, jjunk, jjunk, jjunk] [] S := rfl
theorem c_Maker_closure (d : Nat) (a0 : Nat) (x1 : Int32) (x2 : Int32) (S : jS) : jcall (d + 1) 36 [.ref a0, .int x1, .int x2] S = jval d 36 0 [.ref a0, .int x1, .int x2, jjunk, jjunk, jjunk] [] S := rfl
theorem c_Maker_widen (d : Nat) (a1 : Nat) (x2 : Int32) (a3 : Nat) (S : jS) : jcall (d + 1) 37 [.ref 19, .ref a1, .int x2, .ref a3] S = jval d 37 0 [.ref 19, .ref a1, .int x2, .ref a3, jjunk, jjunk, jjunk, jjunk, jjunk] [] S := rfl
theorem c_Maker_shortTexts (d : Nat) (a0 : Nat) (x1 : Int32) (x2 : Int32) (S : jS) : jcall (d + 1) 38 [.ref a0, .int x1, .int x2] S = jval d 38 0 [.ref a0, .int x1, .int x2, jjunk, jjunk] [] S := rfl
theorem c_Maker_single (d : Nat) (a1 : Nat) (x2 : Int32) (x3 : Int32) (a4 : Nat) (S : jS) : jcall (d + 1) 39 [.ref 19, .ref a1, .int x2, .int x3, .ref a4] S = jval d 39 0 [.ref 19, .ref a1, .int x2, .int x3, .ref a4, jjunk, jjunk] [] S := rfl
theorem c_Maker_sign (d : Nat) (x1 : Int32) (S : jS) : jcall (d + 1) 40 [.ref 19, .int x1] S = jval d 40 0 [.ref 19, .int x1, jjunk, jjunk, jjunk, jjunk] [] S := rfl
theorem c_Maker_gather (d : Nat) (l1 : Int64) (x3 : Int32) (S : jS) : jcall (d + 1) 41 [.ref 19, .long l1, .int x3] S = jval d 41 0 [.ref 19, .long l1, jjunk, .int x3, jjunk, jjunk, jjunk, jjunk, jjunk, jjunk, jjunk, jjunk] [] S := rfl
theorem c_Maker_finish (d : Nat) (x1 : Int32) (a2 : Nat) (S : jS) : jcall (d + 1) 42 [.ref 19, .int x1, .ref a2] S = jval d 42 0 [.ref 19, .int x1, .ref a2, jjunk, jjunk, jjunk, jjunk, jjunk, jjunk, jjunk] [] S := rfl
theorem c_Maker_place (d : Nat) (x1 : Int32) (S : jS) : jcall (d + 1) 43 [.ref 19, .int x1] S = jval d 43 0 [.ref 19, .int x1, jjunk, jjunk, jjunk, jjunk, jjunk, jjunk, jjunk, jjunk, jjunk] [] S := rfl
theorem c_Maker_enlarge (d : Nat)  (S : jS) : jcall (d + 1) 44 [.ref 19] S = jval d 44 0 [.ref 19, jjunk, jjunk, jjunk, jjunk] [] S := rfl
theorem c_Maker_forget (d : Nat)  (S : jS) : jcall (d + 1) 45 [.ref 19] S = jval d 45 0 [.ref 19, jjunk] [] S := rfl
theorem c_Maker_refine (d : Nat)  (S : jS) : jcall (d + 1) 46 [.ref 19] S = jval d 46 0 [.ref 19, jjunk, jjunk, jjunk, jjunk, jjunk, jjunk, jjunk] [] S := rfl
theorem c_Maker_write (d : Nat) (a1 : Nat) (S : jS) : jcall (d + 1) 47 [.ref 19, .ref a1] S = jval d 47 0 [.ref 19, .ref a1, jjunk, jjunk, jjunk, jjunk, jjunk, jjunk, jjunk, jjunk, jjunk, jjunk] [] S := rfl
theorem c_Node_init (d : Nat) (a0 : Nat) (x1 : Int32) (S : jS) : jcall (d + 1) 48 [.ref a0, .int x1] S = jval d 48 0 [.ref a0, .int x1] [] S := rfl
theorem c_PatternReader_read (d : Nat) (a1 : Nat) (x2 : Int32) (S : jS) : jcall (d + 1) 50 [.ref 30, .ref a1, .int x2] S = jval d 50 0 [.ref 30, .ref a1, .int x2, jjunk, jjunk] [] S := rfl
theorem c_PatternReader_make (d : Nat) (a2 : Nat) (S : jS) : jcall (d + 1) 51 [.ref 30, .ref 19, .ref a2] S = jval d 51 0 [.ref 30, .ref 19, .ref a2, jjunk, jjunk, jjunk] [] S := rfl
theorem c_PatternReader_addSteps (d : Nat) (x2 : Int32) (x3 : Int32) (S : jS) : jcall (d + 1) 52 [.ref 30, .ref 19, .int x2, .int x3] S = jval d 52 0 [.ref 30, .ref 19, .int x2, .int x3, jjunk] [] S := rfl
theorem c_PatternReader_take (d : Nat) (x1 : Int32) (S : jS) : jcall (d + 1) 53 [.ref 30, .int x1] S = jval d 53 0 [.ref 30, .int x1] [] S := rfl
theorem c_PatternReader_repeat (d : Nat) (x1 : Int32) (S : jS) : jcall (d + 1) 54 [.ref 30, .int x1] S = jval d 54 0 [.ref 30, .int x1] [] S := rfl
theorem c_PatternReader_addLetter (d : Nat) (x1 : Int32) (S : jS) : jcall (d + 1) 55 [.ref 30, .int x1] S = jval d 55 0 [.ref 30, .int x1, jjunk, jjunk] [] S := rfl
theorem c_PatternReader_openGroup (d : Nat)  (S : jS) : jcall (d + 1) 56 [.ref 30] S = jval d 56 0 [.ref 30] [] S := rfl
theorem c_PatternReader_closeGroup (d : Nat)  (S : jS) : jcall (d + 1) 57 [.ref 30] S = jval d 57 0 [.ref 30] [] S := rfl
theorem c_PatternReader_settle (d : Nat)  (S : jS) : jcall (d + 1) 58 [.ref 30] S = jval d 58 0 [.ref 30, jjunk, jjunk, jjunk] [] S := rfl
theorem c_PatternReader_follow (d : Nat) (x1 : Int32) (x2 : Int32) (S : jS) : jcall (d + 1) 59 [.ref 30, .int x1, .int x2] S = jval d 59 0 [.ref 30, .int x1, .int x2, jjunk] [] S := rfl
theorem c_Program_init (d : Nat) (a0 : Nat) (a1 : Nat) (x2 : Int32) (a3 : Nat) (a4 : Nat) (S : jS) : jcall (d + 1) 60 [.ref a0, .ref a1, .int x2, .ref a3, .ref a4] S = jval d 60 0 [.ref a0, .ref a1, .int x2, .ref a3, .ref a4] [] S := rfl
theorem c_Program_alarmCount (d : Nat) (a0 : Nat) (S : jS) : jcall (d + 1) 61 [.ref a0] S = jval d 61 0 [.ref a0] [] S := rfl
theorem c_Program_alarmPlace (d : Nat) (a0 : Nat) (x1 : Int32) (S : jS) : jcall (d + 1) 62 [.ref a0, .int x1] S = jval d 62 0 [.ref a0, .int x1] [] S := rfl
theorem c_Program_codeAt (d : Nat) (a0 : Nat) (x1 : Int32) (S : jS) : jcall (d + 1) 63 [.ref a0, .int x1] S = jval d 63 0 [.ref a0, .int x1] [] S := rfl
theorem c_Program_quoteEnd (d : Nat) (a0 : Nat) (x1 : Int32) (S : jS) : jcall (d + 1) 64 [.ref a0, .int x1] S = jval d 64 0 [.ref a0, .int x1, jjunk] [] S := rfl
theorem c_ProgramReader_read (d : Nat) (a1 : Nat) (x2 : Int32) (S : jS) : jcall (d + 1) 66 [.ref 35, .ref a1, .int x2] S = jval d 66 0 [.ref 35, .ref a1, .int x2, jjunk] [] S := rfl
theorem c_ProgramReader_block (d : Nat) (x1 : Int32) (S : jS) : jcall (d + 1) 67 [.ref 35, .int x1] S = jval d 67 0 [.ref 35, .int x1, jjunk, jjunk, jjunk, jjunk] [] S := rfl
theorem c_ProgramReader_begins (d : Nat) (x0 : Int32) (S : jS) : jcall (d + 1) 68 [.int x0] S = jval d 68 0 [.int x0] [] S := rfl
theorem c_ProgramReader_statement (d : Nat) (x1 : Int32) (S : jS) : jcall (d + 1) 69 [.ref 35, .int x1] S = jval d 69 0 [.ref 35, .int x1, jjunk, jjunk, jjunk] [] S := rfl
theorem c_ProgramReader_noteAlarm (d : Nat) (a1 : Nat) (S : jS) : jcall (d + 1) 70 [.ref 35, .ref a1] S = jval d 70 0 [.ref 35, .ref a1] [] S := rfl
theorem c_ProgramReader_change (d : Nat) (x1 : Int32) (S : jS) : jcall (d + 1) 71 [.ref 35, .int x1] S = jval d 71 0 [.ref 35, .int x1, jjunk, jjunk] [] S := rfl
theorem c_ProgramReader_parts (d : Nat)  (S : jS) : jcall (d + 1) 72 [.ref 35] S = jval d 72 0 [.ref 35, jjunk, jjunk, jjunk] [] S := rfl
theorem c_ProgramReader_quoted (d : Nat)  (S : jS) : jcall (d + 1) 73 [.ref 35] S = jval d 73 0 [.ref 35, jjunk, jjunk] [] S := rfl
theorem c_ProgramReader_keep (d : Nat) (x1 : Int32) (S : jS) : jcall (d + 1) 74 [.ref 35, .int x1] S = jval d 74 0 [.ref 35, .int x1] [] S := rfl
theorem c_ProgramReader_braces (d : Nat) (x1 : Int32) (S : jS) : jcall (d + 1) 75 [.ref 35, .int x1] S = jval d 75 0 [.ref 35, .int x1, jjunk] [] S := rfl
theorem c_ProgramReader_variable (d : Nat)  (S : jS) : jcall (d + 1) 76 [.ref 35] S = jval d 76 0 [.ref 35, jjunk] [] S := rfl
theorem c_ProgramReader_digit (d : Nat)  (S : jS) : jcall (d + 1) 77 [.ref 35] S = jval d 77 0 [.ref 35, jjunk] [] S := rfl
theorem c_ProgramReader_letter (d : Nat) (x1 : Int32) (S : jS) : jcall (d + 1) 78 [.ref 35, .int x1] S = jval d 78 0 [.ref 35, .int x1, jjunk, jjunk] [] S := rfl
theorem c_ProgramReader_take (d : Nat) (x1 : Int32) (S : jS) : jcall (d + 1) 79 [.ref 35, .int x1] S = jval d 79 0 [.ref 35, .int x1] [] S := rfl
theorem c_ProgramReader_peek (d : Nat)  (S : jS) : jcall (d + 1) 80 [.ref 35] S = jval d 80 0 [.ref 35] [] S := rfl
theorem c_ProgramReader_fail (d : Nat)  (S : jS) : jcall (d + 1) 81 [.ref 35] S = jval d 81 0 [.ref 35] [] S := rfl
theorem c_ProgramReader_variableOf (d : Nat) (x0 : Int32) (S : jS) : jcall (d + 1) 82 [.int x0] S = jval d 82 0 [.int x0] [] S := rfl
theorem c_Runner_keptLength (d : Nat) (x1 : Int32) (S : jS) : jcall (d + 1) 84 [.ref 111, .int x1] S = jval d 84 0 [.ref 111, .int x1] [] S := rfl
theorem c_Runner_keptLetter (d : Nat) (x1 : Int32) (x2 : Int32) (S : jS) : jcall (d + 1) 85 [.ref 111, .int x1, .int x2] S = jval d 85 0 [.ref 111, .int x1, .int x2, jjunk] [] S := rfl
theorem c_Runner_keptRings (d : Nat)  (S : jS) : jcall (d + 1) 86 [.ref 111] S = jval d 86 0 [.ref 111] [] S := rfl
theorem c_Runner_keptIsIn (d : Nat) (x1 : Int32) (a2 : Nat) (S : jS) : jcall (d + 1) 87 [.ref 111, .int x1, .ref a2] S = jval d 87 0 [.ref 111, .int x1, .ref a2, jjunk, jjunk] [] S := rfl
theorem c_Runner_start (d : Nat) (a1 : Nat) (x2 : Int32) (S : jS) : jcall (d + 1) 88 [.ref 111, .ref a1, .int x2] S = jval d 88 0 [.ref 111, .ref a1, .int x2] [] S := rfl
theorem c_Runner_block (d : Nat) (a1 : Nat) (x2 : Int32) (S : jS) : jcall (d + 1) 89 [.ref 111, .ref a1, .int x2] S = jval d 89 0 [.ref 111, .ref a1, .int x2, jjunk, jjunk] [] S := rfl
theorem c_Runner_countStep (d : Nat)  (S : jS) : jcall (d + 1) 90 [.ref 111] S = jval d 90 0 [.ref 111] [] S := rfl
theorem c_Runner_loop (d : Nat) (a1 : Nat) (x2 : Int32) (S : jS) : jcall (d + 1) 91 [.ref 111, .ref a1, .int x2] S = jval d 91 0 [.ref 111, .ref a1, .int x2, jjunk, jjunk] [] S := rfl
theorem c_Runner_draw (d : Nat) (x1 : Int32) (S : jS) : jcall (d + 1) 92 [.ref 111, .int x1] S = jval d 92 0 [.ref 111, .int x1] [] S := rfl
theorem c_Runner_lengthOf (d : Nat) (x1 : Int32) (S : jS) : jcall (d + 1) 93 [.ref 111, .int x1] S = jval d 93 0 [.ref 111, .int x1] [] S := rfl
theorem c_Runner_letterOf (d : Nat) (x1 : Int32) (x2 : Int32) (S : jS) : jcall (d + 1) 94 [.ref 111, .int x1, .int x2] S = jval d 94 0 [.ref 111, .int x1, .int x2, jjunk] [] S := rfl
theorem c_Runner_passes (d : Nat) (a1 : Nat) (S : jS) : jcall (d + 1) 95 [.ref 111, .ref a1] S = jval d 95 0 [.ref 111, .ref a1, jjunk, jjunk, jjunk] [] S := rfl
theorem c_Runner_assign (d : Nat) (a1 : Nat) (S : jS) : jcall (d + 1) 96 [.ref 111, .ref a1] S = jval d 96 0 [.ref 111, .ref a1, jjunk, jjunk, jjunk, jjunk, jjunk] [] S := rfl
theorem c_Runner_append (d : Nat) (x1 : Int32) (S : jS) : jcall (d + 1) 97 [.ref 111, .int x1] S = jval d 97 0 [.ref 111, .int x1] [] S := rfl
theorem c_Runner_appendAny (d : Nat) (a1 : Nat) (S : jS) : jcall (d + 1) 98 [.ref 111, .ref a1] S = jval d 98 0 [.ref 111, .ref a1, jjunk, jjunk, jjunk] [] S := rfl
theorem c_Runner_appendVariable (d : Nat) (x1 : Int32) (S : jS) : jcall (d + 1) 99 [.ref 111, .int x1] S = jval d 99 0 [.ref 111, .int x1, jjunk] [] S := rfl
theorem c_Runner_keepFresh (d : Nat) (x1 : Int32) (S : jS) : jcall (d + 1) 100 [.ref 111, .int x1] S = jval d 100 0 [.ref 111, .int x1] [] S := rfl
theorem c_Runner_replace (d : Nat) (a1 : Nat) (S : jS) : jcall (d + 1) 101 [.ref 111, .ref a1] S = jval d 101 0 [.ref 111, .ref a1, jjunk, jjunk] [] S := rfl
theorem c_Setup_init2 (d : Nat) (a0 : Nat) (a1 : Nat) (a2 : Nat) (x3 : Int32) (x4 : Int32) (S : jS) : jcall (d + 1) 103 [.ref a0, .ref a1, .ref a2, .int x3, .int x4] S = jval d 103 0 [.ref a0, .ref a1, .ref a2, .int x3, .int x4] [] S := rfl
theorem c_Setup_withPattern (d : Nat) (a0 : Nat) (x1 : Int32) (a2 : Nat) (S : jS) : jcall (d + 1) 104 [.ref a0, .int x1, .ref a2] S = jval d 104 0 [.ref a0, .int x1, .ref a2, jjunk, jjunk] [] S := rfl
theorem c_Setup_withProgram (d : Nat) (a0 : Nat) (a1 : Nat) (S : jS) : jcall (d + 1) 105 [.ref a0, .ref a1] S = jval d 105 0 [.ref a0, .ref a1] [] S := rfl
theorem c_Setup_withDelay (d : Nat) (a0 : Nat) (x1 : Int32) (S : jS) : jcall (d + 1) 106 [.ref a0, .int x1] S = jval d 106 0 [.ref a0, .int x1] [] S := rfl
theorem c_Setup_withSimilar (d : Nat) (a0 : Nat) (x1 : Int32) (S : jS) : jcall (d + 1) 107 [.ref a0, .int x1] S = jval d 107 0 [.ref a0, .int x1] [] S := rfl
theorem c_Setup_patternAt (d : Nat) (a0 : Nat) (x1 : Int32) (S : jS) : jcall (d + 1) 108 [.ref a0, .int x1] S = jval d 108 0 [.ref a0, .int x1] [] S := rfl
theorem c_State_set (d : Nat) (a0 : Nat) (a1 : Nat) (S : jS) : jcall (d + 1) 110 [.ref a0, .ref a1] S = jval d 110 0 [.ref a0, .ref a1, jjunk] [] S := rfl
theorem c_State_at (d : Nat) (a0 : Nat) (x1 : Int32) (S : jS) : jcall (d + 1) 111 [.ref a0, .int x1] S = jval d 111 0 [.ref a0, .int x1] [] S := rfl
theorem c_Texts_letter (d : Nat) (x1 : Int32) (S : jS) : jcall (d + 1) 113 [.ref 13, .int x1] S = jval d 113 0 [.ref 13, .int x1] [] S := rfl
theorem c_Texts_shortest (d : Nat) (a1 : Nat) (S : jS) : jcall (d + 1) 114 [.ref 13, .ref a1] S = jval d 114 0 [.ref 13, .ref a1, jjunk, jjunk] [] S := rfl
theorem c_Texts_longest (d : Nat) (a1 : Nat) (S : jS) : jcall (d + 1) 115 [.ref 13, .ref a1] S = jval d 115 0 [.ref 13, .ref a1, jjunk, jjunk, jjunk] [] S := rfl
theorem c_Texts_leadingTo (d : Nat) (a0 : Nat) (x1 : Int32) (S : jS) : jcall (d + 1) 116 [.ref a0, .int x1] S = jval d 116 0 [.ref a0, .int x1, jjunk, jjunk, jjunk] [] S := rfl
theorem c_Texts_ofLength (d : Nat) (a1 : Nat) (x2 : Int32) (S : jS) : jcall (d + 1) 117 [.ref 13, .ref a1, .int x2] S = jval d 117 0 [.ref 13, .ref a1, .int x2, jjunk, jjunk, jjunk] [] S := rfl
theorem c_Texts_upTo (d : Nat) (a1 : Nat) (x2 : Int32) (S : jS) : jcall (d + 1) 118 [.ref 13, .ref a1, .int x2] S = jval d 118 0 [.ref 13, .ref a1, .int x2, jjunk, jjunk, jjunk, jjunk] [] S := rfl
theorem c_Texts_find (d : Nat) (a1 : Nat) (x2 : Int32) (S : jS) : jcall (d + 1) 119 [.ref 13, .ref a1, .int x2] S = jval d 119 0 [.ref 13, .ref a1, .int x2, jjunk, jjunk, jjunk, jjunk] [] S := rfl
theorem c_Texts_fill (d : Nat) (a1 : Nat) (x2 : Int32) (S : jS) : jcall (d + 1) 120 [.ref 13, .ref a1, .int x2] S = jval d 120 0 [.ref 13, .ref a1, .int x2, jjunk, jjunk, jjunk] [] S := rfl
theorem c_Texts_spell (d : Nat) (a1 : Nat) (x2 : Int32) (x3 : Int32) (S : jS) : jcall (d + 1) 121 [.ref 13, .ref a1, .int x2, .int x3] S = jval d 121 0 [.ref 13, .ref a1, .int x2, .int x3, jjunk, jjunk, jjunk, jjunk, jjunk] [] S := rfl
theorem c_Texts_waysFrom (d : Nat) (x1 : Int32) (x2 : Int32) (S : jS) : jcall (d + 1) 122 [.ref 13, .int x1, .int x2] S = jval d 122 0 [.ref 13, .int x1, .int x2] [] S := rfl
theorem c_Texts_smallest (d : Nat) (a1 : Nat) (a2 : Nat) (x3 : Int32) (S : jS) : jcall (d + 1) 123 [.ref 13, .ref a1, .ref a2, .int x3] S = jval d 123 0 [.ref 13, .ref a1, .ref a2, .int x3, jjunk, jjunk, jjunk, jjunk, jjunk, jjunk, jjunk] [] S := rfl
theorem c_Texts_trace (d : Nat) (x1 : Int32) (S : jS) : jcall (d + 1) 124 [.ref 13, .int x1] S = jval d 124 0 [.ref 13, .int x1, jjunk, jjunk, jjunk] [] S := rfl
theorem c_TextValues_type (d : Nat) (x1 : Int32) (S : jS) : jcall (d + 1) 126 [.ref 1, .int x1] S = jval d 126 0 [.ref 1, .int x1] [] S := rfl
theorem c_TextValues_clear (d : Nat)  (S : jS) : jcall (d + 1) 127 [.ref 1] S = jval d 127 0 [.ref 1, jjunk] [] S := rfl
theorem c_TextValues_pattern (d : Nat) (x1 : Int32) (S : jS) : jcall (d + 1) 128 [.ref 1, .int x1] S = jval d 128 0 [.ref 1, .int x1, jjunk, jjunk] [] S := rfl
theorem c_TextValues_program (d : Nat)  (S : jS) : jcall (d + 1) 129 [.ref 1] S = jval d 129 0 [.ref 1, jjunk] [] S := rfl
theorem c_TextValues_sets (d : Nat) (x1 : Int32) (x2 : Int32) (S : jS) : jcall (d + 1) 130 [.ref 1, .int x1, .int x2] S = jval d 130 0 [.ref 1, .int x1, .int x2, jjunk] [] S := rfl
theorem c_TextValues_value (d : Nat) (x1 : Int32) (x2 : Int32) (S : jS) : jcall (d + 1) 131 [.ref 1, .int x1, .int x2] S = jval d 131 0 [.ref 1, .int x1, .int x2, jjunk] [] S := rfl
theorem c_TextValues_many (d : Nat) (x1 : Int32) (x2 : Int32) (S : jS) : jcall (d + 1) 132 [.ref 1, .int x1, .int x2] S = jval d 132 0 [.ref 1, .int x1, .int x2, jjunk] [] S := rfl
theorem c_TextValues_text (d : Nat) (x1 : Int32) (x2 : Int32) (x3 : Int32) (S : jS) : jcall (d + 1) 133 [.ref 1, .int x1, .int x2, .int x3] S = jval d 133 0 [.ref 1, .int x1, .int x2, .int x3, jjunk, jjunk] [] S := rfl
theorem c_TextValues_holds (d : Nat) (x1 : Int32) (S : jS) : jcall (d + 1) 134 [.ref 1, .int x1] S = jval d 134 0 [.ref 1, .int x1, jjunk, jjunk, jjunk, jjunk] [] S := rfl
theorem c_TextValues_within (d : Nat) (x1 : Int32) (x2 : Int32) (S : jS) : jcall (d + 1) 135 [.ref 1, .int x1, .int x2] S = jval d 135 0 [.ref 1, .int x1, .int x2, jjunk, jjunk] [] S := rfl
theorem c_TextValues_alarms (d : Nat)  (S : jS) : jcall (d + 1) 136 [.ref 1] S = jval d 136 0 [.ref 1] [] S := rfl
theorem c_TextValues_alarm (d : Nat) (x1 : Int32) (x2 : Int32) (S : jS) : jcall (d + 1) 137 [.ref 1, .int x1, .int x2] S = jval d 137 0 [.ref 1, .int x1, .int x2] [] S := rfl
theorem c_TextValues_raised (d : Nat) (x1 : Int32) (x2 : Int32) (S : jS) : jcall (d + 1) 138 [.ref 1, .int x1, .int x2] S = jval d 138 0 [.ref 1, .int x1, .int x2] [] S := rfl
theorem c_TextValues_count (d : Nat) (x1 : Int32) (S : jS) : jcall (d + 1) 139 [.ref 1, .int x1] S = jval d 139 0 [.ref 1, .int x1] [] S := rfl
theorem c_TextValues_runs (d : Nat) (x1 : Int32) (S : jS) : jcall (d + 1) 140 [.ref 1, .int x1] S = jval d 140 0 [.ref 1, .int x1] [] S := rfl
theorem c_TextValues_ran (d : Nat) (x1 : Int32) (x2 : Int32) (S : jS) : jcall (d + 1) 141 [.ref 1, .int x1, .int x2] S = jval d 141 0 [.ref 1, .int x1, .int x2] [] S := rfl
theorem c_TextValues_caught (d : Nat)  (S : jS) : jcall (d + 1) 142 [.ref 1] S = jval d 142 0 [.ref 1] [] S := rfl
theorem c_TextValues_rang (d : Nat)  (S : jS) : jcall (d + 1) 143 [.ref 1] S = jval d 143 0 [.ref 1] [] S := rfl
theorem c_TextValues_back (d : Nat)  (S : jS) : jcall (d + 1) 144 [.ref 1] S = jval d 144 0 [.ref 1] [] S := rfl
theorem c_TextValues_told (d : Nat) (x1 : Int32) (S : jS) : jcall (d + 1) 145 [.ref 1, .int x1] S = jval d 145 0 [.ref 1, .int x1] [] S := rfl
theorem c_TextValues_digest (d : Nat)  (S : jS) : jcall (d + 1) 146 [.ref 1] S = jval d 146 0 [.ref 1, jjunk, jjunk, jjunk, jjunk, jjunk] [] S := rfl
theorem c_TextValues_refuse (d : Nat) (x1 : Int32) (S : jS) : jcall (d + 1) 147 [.ref 1, .int x1] S = jval d 147 0 [.ref 1, .int x1] [] S := rfl
theorem c_TextValues_change (d : Nat) (a1 : Nat) (S : jS) : jcall (d + 1) 148 [.ref 1, .ref a1] S = jval d 148 0 [.ref 1, .ref a1, jjunk] [] S := rfl
theorem c_TextValues_isLanguage (d : Nat) (x0 : Int32) (S : jS) : jcall (d + 1) 149 [.int x0] S = jval d 149 0 [.int x0] [] S := rfl
theorem c_TextValues_language (d : Nat) (x1 : Int32) (S : jS) : jcall (d + 1) 150 [.ref 1, .int x1] S = jval d 150 0 [.ref 1, .int x1] [] S := rfl
theorem c_TextValues_described (d : Nat) (a1 : Nat) (x2 : Int32) (S : jS) : jcall (d + 1) 151 [.ref 1, .ref a1, .int x2] S = jval d 151 0 [.ref 1, .ref a1, .int x2] [] S := rfl
theorem c_TextValues_alarmed (d : Nat) (x1 : Int32) (x2 : Int32) (S : jS) : jcall (d + 1) 152 [.ref 1, .int x1, .int x2] S = jval d 152 0 [.ref 1, .int x1, .int x2] [] S := rfl
theorem c_TextValues_counted (d : Nat) (x1 : Int32) (S : jS) : jcall (d + 1) 153 [.ref 1, .int x1] S = jval d 153 0 [.ref 1, .int x1] [] S := rfl
theorem c_TextValues_caughtNow (d : Nat)  (S : jS) : jcall (d + 1) 154 [.ref 1] S = jval d 154 0 [.ref 1, jjunk, jjunk] [] S := rfl
theorem c_TextValues_tally (d : Nat) (x1 : Int32) (S : jS) : jcall (d + 1) 155 [.ref 1, .int x1] S = jval d 155 0 [.ref 1, .int x1] [] S := rfl
theorem c_TextValuesModel_bad (d : Nat)  (S : jS) : jcall (d + 1) 156 [.ref 117] S = jval d 156 0 [.ref 117] [] S := rfl
theorem c_TextValuesModel_no (d : Nat)  (S : jS) : jcall (d + 1) 157 [.ref 117] S = jval d 157 0 [.ref 117] [] S := rfl
theorem c_TextValuesModel_full (d : Nat)  (S : jS) : jcall (d + 1) 158 [.ref 117] S = jval d 158 0 [.ref 117] [] S := rfl
theorem c_TextValuesModel_in (d : Nat) (x0 : Int32) (x1 : Int32) (x2 : Int32) (S : jS) : jcall (d + 1) 159 [.int x0, .int x1, .int x2] S = jval d 159 0 [.int x0, .int x1, .int x2] [] S := rfl
theorem c_TextValuesModel_size (d : Nat) (x1 : Int32) (S : jS) : jcall (d + 1) 160 [.ref 117, .int x1] S = jval d 160 0 [.ref 117, .int x1] [] S := rfl
theorem c_TextValuesModel_ends (d : Nat) (x1 : Int32) (S : jS) : jcall (d + 1) 161 [.ref 117, .int x1] S = jval d 161 0 [.ref 117, .int x1] [] S := rfl
theorem c_TextValuesModel_isEnd (d : Nat) (x1 : Int32) (x2 : Int32) (S : jS) : jcall (d + 1) 162 [.ref 117, .int x1, .int x2] S = jval d 162 0 [.ref 117, .int x1, .int x2] [] S := rfl
theorem c_TextValuesModel_to (d : Nat) (x1 : Int32) (x2 : Int32) (x3 : Int32) (S : jS) : jcall (d + 1) 163 [.ref 117, .int x1, .int x2, .int x3] S = jval d 163 0 [.ref 117, .int x1, .int x2, .int x3] [] S := rfl
theorem c_TextValuesModel_copies (d : Nat) (x1 : Int32) (x2 : Int32) (S : jS) : jcall (d + 1) 164 [.ref 117, .int x1, .int x2] S = jval d 164 0 [.ref 117, .int x1, .int x2, jjunk] [] S := rfl
theorem c_TextValuesModel_laysAll (d : Nat) (x1 : Int32) (S : jS) : jcall (d + 1) 165 [.ref 117, .int x1] S = jval d 165 0 [.ref 117, .int x1, jjunk] [] S := rfl
theorem c_TextValuesModel_isAll (d : Nat) (x1 : Int32) (S : jS) : jcall (d + 1) 166 [.ref 117, .int x1] S = jval d 166 0 [.ref 117, .int x1] [] S := rfl
theorem c_TextValuesModel_isNothing (d : Nat) (x1 : Int32) (S : jS) : jcall (d + 1) 167 [.ref 117, .int x1] S = jval d 167 0 [.ref 117, .int x1] [] S := rfl
theorem c_TextValuesModel_areSame (d : Nat) (x1 : Int32) (x2 : Int32) (S : jS) : jcall (d + 1) 168 [.ref 117, .int x1, .int x2] S = jval d 168 0 [.ref 117, .int x1, .int x2, jjunk, jjunk] [] S := rfl
theorem c_TextValuesModel_laysText (d : Nat) (x1 : Int32) (x2 : Int32) (x3 : Int32) (S : jS) : jcall (d + 1) 169 [.ref 117, .int x1, .int x2, .int x3] S = jval d 169 0 [.ref 117, .int x1, .int x2, .int x3] [] S := rfl
theorem c_TextValuesModel_moved (d : Nat) (x1 : Int32) (x2 : Int32) (x3 : Int32) (S : jS) : jcall (d + 1) 170 [.ref 117, .int x1, .int x2, .int x3] S = jval d 170 0 [.ref 117, .int x1, .int x2, .int x3, jjunk, jjunk] [] S := rfl
theorem c_TextValuesModel_closed (d : Nat) (x1 : Int32) (S : jS) : jcall (d + 1) 171 [.ref 117, .int x1] S = jval d 171 0 [.ref 117, .int x1, jjunk, jjunk] [] S := rfl
theorem c_TextValuesModel_neared (d : Nat) (x1 : Int32) (S : jS) : jcall (d + 1) 172 [.ref 117, .int x1] S = jval d 172 0 [.ref 117, .int x1, jjunk, jjunk] [] S := rfl
theorem c_TextValuesModel_firstKey (d : Nat)  (S : jS) : jcall (d + 1) 173 [.ref 117] S = jval d 173 0 [.ref 117] [] S := rfl
theorem c_TextValuesModel_exchanged (d : Nat) (x1 : Int32) (x2 : Int32) (S : jS) : jcall (d + 1) 174 [.ref 117, .int x1, .int x2] S = jval d 174 0 [.ref 117, .int x1, .int x2, jjunk, jjunk, jjunk] [] S := rfl
theorem c_TextValuesModel_followed (d : Nat) (x1 : Int32) (x2 : Int32) (S : jS) : jcall (d + 1) 175 [.ref 117, .int x1, .int x2] S = jval d 175 0 [.ref 117, .int x1, .int x2, jjunk, jjunk] [] S := rfl
theorem c_TextValuesModel_chained (d : Nat) (x1 : Int32) (x2 : Int32) (S : jS) : jcall (d + 1) 176 [.ref 117, .int x1, .int x2] S = jval d 176 0 [.ref 117, .int x1, .int x2, jjunk, jjunk] [] S := rfl
theorem c_TextValuesModel_spelt (d : Nat) (x1 : Int32) (x2 : Int32) (S : jS) : jcall (d + 1) 177 [.ref 117, .int x1, .int x2] S = jval d 177 0 [.ref 117, .int x1, .int x2] [] S := rfl
theorem c_TextValuesModel_nextKey (d : Nat) (x1 : Int32) (x2 : Int32) (S : jS) : jcall (d + 1) 178 [.ref 117, .int x1, .int x2] S = jval d 178 0 [.ref 117, .int x1, .int x2] [] S := rfl
theorem c_TextValuesModel_isEndKey (d : Nat) (x1 : Int32) (S : jS) : jcall (d + 1) 179 [.ref 117, .int x1] S = jval d 179 0 [.ref 117, .int x1, jjunk, jjunk] [] S := rfl
theorem c_TextValuesModel_placeOf (d : Nat) (x1 : Int32) (S : jS) : jcall (d + 1) 180 [.ref 117, .int x1] S = jval d 180 0 [.ref 117, .int x1] [] S := rfl
theorem c_TextValuesModel_meets (d : Nat)  (S : jS) : jcall (d + 1) 181 [.ref 117] S = jval d 181 0 [.ref 117, jjunk, jjunk, jjunk] [] S := rfl
theorem c_TextValuesModel_signOf (d : Nat) (x1 : Int32) (S : jS) : jcall (d + 1) 182 [.ref 117, .int x1] S = jval d 182 0 [.ref 117, .int x1, jjunk, jjunk] [] S := rfl
theorem c_TextValuesModel_parts (d : Nat)  (S : jS) : jcall (d + 1) 183 [.ref 117] S = jval d 183 0 [.ref 117, jjunk, jjunk, jjunk] [] S := rfl
theorem c_TextValuesModel_sorts (d : Nat)  (S : jS) : jcall (d + 1) 184 [.ref 117] S = jval d 184 0 [.ref 117, jjunk, jjunk] [] S := rfl
theorem c_TextValuesModel_makes (d : Nat) (x1 : Int32) (x2 : Int32) (S : jS) : jcall (d + 1) 185 [.ref 117, .int x1, .int x2] S = jval d 185 0 [.ref 117, .int x1, .int x2, jjunk, jjunk, jjunk, jjunk, jjunk, jjunk] [] S := rfl
theorem c_TextValuesModel_pairs (d : Nat) (x1 : Int32) (x2 : Int32) (x3 : Int32) (x4 : Int32) (S : jS) : jcall (d + 1) 186 [.ref 117, .int x1, .int x2, .int x3, .int x4] S = jval d 186 0 [.ref 117, .int x1, .int x2, .int x3, .int x4] [] S := rfl
theorem c_TextValuesModel_chains (d : Nat) (x1 : Int32) (x2 : Int32) (x3 : Int32) (S : jS) : jcall (d + 1) 187 [.ref 117, .int x1, .int x2, .int x3] S = jval d 187 0 [.ref 117, .int x1, .int x2, .int x3] [] S := rfl
theorem c_TextValuesModel_exchanges (d : Nat) (x1 : Int32) (x2 : Int32) (x3 : Int32) (S : jS) : jcall (d + 1) 188 [.ref 117, .int x1, .int x2, .int x3] S = jval d 188 0 [.ref 117, .int x1, .int x2, .int x3] [] S := rfl
theorem c_TextValuesModel_areNear (d : Nat) (x1 : Int32) (x2 : Int32) (x3 : Int32) (S : jS) : jcall (d + 1) 189 [.ref 117, .int x1, .int x2, .int x3] S = jval d 189 0 [.ref 117, .int x1, .int x2, .int x3, jjunk, jjunk] [] S := rfl
theorem c_TextValuesModel_widens (d : Nat) (x1 : Int32) (S : jS) : jcall (d + 1) 190 [.ref 117, .int x1] S = jval d 190 0 [.ref 117, .int x1, jjunk, jjunk] [] S := rfl
theorem c_TextValuesModel_counts (d : Nat) (x1 : Int32) (x2 : Int32) (S : jS) : jcall (d + 1) 191 [.ref 117, .int x1, .int x2] S = jval d 191 0 [.ref 117, .int x1, .int x2, jjunk, jjunk, jjunk, jjunk] [] S := rfl
theorem c_TextValuesModel_leastLength (d : Nat) (x1 : Int32) (S : jS) : jcall (d + 1) 192 [.ref 117, .int x1] S = jval d 192 0 [.ref 117, .int x1, jjunk] [] S := rfl
theorem c_TextValuesModel_greatestLength (d : Nat) (x1 : Int32) (S : jS) : jcall (d + 1) 193 [.ref 117, .int x1] S = jval d 193 0 [.ref 117, .int x1, jjunk, jjunk] [] S := rfl
theorem c_TextValuesModel_spells (d : Nat) (x1 : Int32) (x2 : Int32) (S : jS) : jcall (d + 1) 194 [.ref 117, .int x1, .int x2] S = jval d 194 0 [.ref 117, .int x1, .int x2, jjunk, jjunk, jjunk, jjunk, jjunk, jjunk] [] S := rfl
theorem c_TextValuesModel_manyOf (d : Nat) (x1 : Int32) (x2 : Int32) (S : jS) : jcall (d + 1) 195 [.ref 117, .int x1, .int x2] S = jval d 195 0 [.ref 117, .int x1, .int x2, jjunk, jjunk] [] S := rfl
theorem c_TextValuesModel_isWithin (d : Nat) (x1 : Int32) (x2 : Int32) (S : jS) : jcall (d + 1) 196 [.ref 117, .int x1, .int x2] S = jval d 196 0 [.ref 117, .int x1, .int x2, jjunk, jjunk] [] S := rfl
theorem c_TextValuesModel_here (d : Nat)  (S : jS) : jcall (d + 1) 197 [.ref 117] S = jval d 197 0 [.ref 117] [] S := rfl
theorem c_TextValuesModel_takes (d : Nat) (x1 : Int32) (S : jS) : jcall (d + 1) 198 [.ref 117, .int x1] S = jval d 198 0 [.ref 117, .int x1, jjunk] [] S := rfl
theorem c_TextValuesModel_letterOf (d : Nat) (x0 : Int32) (S : jS) : jcall (d + 1) 199 [.int x0] S = jval d 199 0 [.int x0] [] S := rfl
theorem c_TextValuesModel_variableOf (d : Nat) (x0 : Int32) (S : jS) : jcall (d + 1) 200 [.int x0] S = jval d 200 0 [.int x0] [] S := rfl
theorem c_TextValuesModel_number (d : Nat) (x1 : Int32) (S : jS) : jcall (d + 1) 201 [.ref 117, .int x1] S = jval d 201 0 [.ref 117, .int x1, jjunk, jjunk] [] S := rfl
theorem c_TextValuesModel_comes (d : Nat) (x1 : Int32) (x2 : Int32) (x3 : Int32) (x4 : Int32) (S : jS) : jcall (d + 1) 202 [.ref 117, .int x1, .int x2, .int x3, .int x4] S = jval d 202 0 [.ref 117, .int x1, .int x2, .int x3, .int x4] [] S := rfl
theorem c_TextValuesModel_part (d : Nat) (x1 : Int32) (x2 : Int32) (x3 : Int32) (S : jS) : jcall (d + 1) 203 [.ref 117, .int x1, .int x2, .int x3] S = jval d 203 0 [.ref 117, .int x1, .int x2, .int x3] [] S := rfl
theorem c_TextValuesModel_quoted (d : Nat)  (S : jS) : jcall (d + 1) 204 [.ref 117] S = jval d 204 0 [.ref 117, jjunk, jjunk] [] S := rfl
theorem c_TextValuesModel_makesTold (d : Nat) (x1 : Int32) (S : jS) : jcall (d + 1) 205 [.ref 117, .int x1] S = jval d 205 0 [.ref 117, .int x1, jjunk, jjunk, jjunk] [] S := rfl
theorem c_TextValuesModel_ofVariable (d : Nat)  (S : jS) : jcall (d + 1) 206 [.ref 117] S = jval d 206 0 [.ref 117, jjunk, jjunk, jjunk] [] S := rfl
theorem c_TextValuesModel_readsAlarm (d : Nat)  (S : jS) : jcall (d + 1) 207 [.ref 117] S = jval d 207 0 [.ref 117, jjunk, jjunk, jjunk] [] S := rfl
theorem c_TextValuesModel_opens (d : Nat) (x1 : Int32) (x2 : Int32) (S : jS) : jcall (d + 1) 208 [.ref 117, .int x1, .int x2] S = jval d 208 0 [.ref 117, .int x1, .int x2] [] S := rfl
theorem c_TextValuesModel_closes (d : Nat)  (S : jS) : jcall (d + 1) 209 [.ref 117] S = jval d 209 0 [.ref 117, jjunk, jjunk, jjunk] [] S := rfl
theorem c_TextValuesModel_begins (d : Nat) (x1 : Int32) (S : jS) : jcall (d + 1) 210 [.ref 117, .int x1] S = jval d 210 0 [.ref 117, .int x1, jjunk, jjunk, jjunk, jjunk] [] S := rfl
theorem c_TextValuesModel_statement (d : Nat)  (S : jS) : jcall (d + 1) 211 [.ref 117] S = jval d 211 0 [.ref 117, jjunk] [] S := rfl
theorem c_TextValuesModel_readsProgram (d : Nat)  (S : jS) : jcall (d + 1) 212 [.ref 117] S = jval d 212 0 [.ref 117] [] S := rfl
theorem c_TextValuesModel_copiesAll (d : Nat) (x1 : Int32) (x2 : Int32) (S : jS) : jcall (d + 1) 213 [.ref 117, .int x1, .int x2] S = jval d 213 0 [.ref 117, .int x1, .int x2, jjunk] [] S := rfl
theorem c_TextValuesModel_head (d : Nat)  (S : jS) : jcall (d + 1) 214 [.ref 117] S = jval d 214 0 [.ref 117] [] S := rfl
theorem c_TextValuesModel_asks (d : Nat) (x1 : Int32) (x2 : Int32) (x3 : Int32) (S : jS) : jcall (d + 1) 215 [.ref 117, .int x1, .int x2, .int x3] S = jval d 215 0 [.ref 117, .int x1, .int x2, .int x3] [] S := rfl
theorem c_TextValuesModel_joins (d : Nat) (x1 : Int32) (S : jS) : jcall (d + 1) 216 [.ref 117, .int x1] S = jval d 216 0 [.ref 117, .int x1, jjunk] [] S := rfl
theorem c_TextValuesModel_laysPart (d : Nat) (x1 : Int32) (x2 : Int32) (S : jS) : jcall (d + 1) 217 [.ref 117, .int x1, .int x2] S = jval d 217 0 [.ref 117, .int x1, .int x2] [] S := rfl
theorem c_TextValuesModel_setsAt (d : Nat) (x1 : Int32) (S : jS) : jcall (d + 1) 218 [.ref 117, .int x1] S = jval d 218 0 [.ref 117, .int x1, jjunk] [] S := rfl
theorem c_TextValuesModel_common (d : Nat) (x1 : Int32) (x2 : Int32) (S : jS) : jcall (d + 1) 219 [.ref 117, .int x1, .int x2] S = jval d 219 0 [.ref 117, .int x1, .int x2, jjunk, jjunk, jjunk, jjunk] [] S := rfl
theorem c_TextValuesModel_isLess (d : Nat) (x1 : Int32) (x2 : Int32) (S : jS) : jcall (d + 1) 220 [.ref 117, .int x1, .int x2] S = jval d 220 0 [.ref 117, .int x1, .int x2, jjunk] [] S := rfl
theorem c_TextValuesModel_rings (d : Nat) (x1 : Int32) (S : jS) : jcall (d + 1) 221 [.ref 117, .int x1] S = jval d 221 0 [.ref 117, .int x1, jjunk, jjunk, jjunk] [] S := rfl
theorem c_TextValuesModel_isOther (d : Nat) (x1 : Int32) (S : jS) : jcall (d + 1) 222 [.ref 117, .int x1] S = jval d 222 0 [.ref 117, .int x1, jjunk, jjunk, jjunk] [] S := rfl
theorem c_TextValuesModel_loops (d : Nat) (x1 : Int32) (S : jS) : jcall (d + 1) 223 [.ref 117, .int x1] S = jval d 223 0 [.ref 117, .int x1] [] S := rfl
theorem c_TextValuesModel_loopsOn (d : Nat) (x1 : Int32) (S : jS) : jcall (d + 1) 224 [.ref 117, .int x1] S = jval d 224 0 [.ref 117, .int x1, jjunk, jjunk] [] S := rfl
theorem c_TextValuesModel_branches (d : Nat) (x1 : Int32) (S : jS) : jcall (d + 1) 225 [.ref 117, .int x1] S = jval d 225 0 [.ref 117, .int x1] [] S := rfl
theorem c_TextValuesModel_turns (d : Nat) (x1 : Int32) (S : jS) : jcall (d + 1) 226 [.ref 117, .int x1] S = jval d 226 0 [.ref 117, .int x1, jjunk] [] S := rfl
theorem c_TextValuesModel_goes (d : Nat) (x1 : Int32) (S : jS) : jcall (d + 1) 227 [.ref 117, .int x1] S = jval d 227 0 [.ref 117, .int x1] [] S := rfl
theorem c_TextValuesModel_endsBlock (d : Nat) (x1 : Int32) (x2 : Int32) (S : jS) : jcall (d + 1) 228 [.ref 117, .int x1, .int x2] S = jval d 228 0 [.ref 117, .int x1, .int x2] [] S := rfl
theorem c_TextValuesModel_foretells (d : Nat)  (S : jS) : jcall (d + 1) 229 [.ref 117] S = jval d 229 0 [.ref 117, jjunk] [] S := rfl
theorem c_TextValuesModel_draws (d : Nat) (x1 : Int32) (S : jS) : jcall (d + 1) 230 [.ref 117, .int x1] S = jval d 230 0 [.ref 117, .int x1] [] S := rfl
theorem c_TextValuesModel_isIn (d : Nat) (x1 : Int32) (a2 : Nat) (x3 : Int32) (x4 : Int32) (S : jS) : jcall (d + 1) 231 [.ref 117, .int x1, .ref a2, .int x3, .int x4] S = jval d 231 0 [.ref 117, .int x1, .ref a2, .int x3, .int x4, jjunk, jjunk] [] S := rfl
theorem c_TextValuesModel_holdsNow (d : Nat) (x1 : Int32) (x2 : Int32) (S : jS) : jcall (d + 1) 232 [.ref 117, .int x1, .int x2] S = jval d 232 0 [.ref 117, .int x1, .int x2] [] S := rfl
theorem c_TextValuesModel_adds (d : Nat) (x1 : Int32) (S : jS) : jcall (d + 1) 233 [.ref 117, .int x1] S = jval d 233 0 [.ref 117, .int x1] [] S := rfl
theorem c_TextValuesModel_addsPattern (d : Nat) (x1 : Int32) (S : jS) : jcall (d + 1) 234 [.ref 117, .int x1] S = jval d 234 0 [.ref 117, .int x1, jjunk, jjunk, jjunk] [] S := rfl
theorem c_TextValuesModel_addsPart (d : Nat) (x1 : Int32) (S : jS) : jcall (d + 1) 235 [.ref 117, .int x1] S = jval d 235 0 [.ref 117, .int x1, jjunk, jjunk] [] S := rfl
theorem c_TextValuesModel_runsSet (d : Nat) (x1 : Int32) (S : jS) : jcall (d + 1) 236 [.ref 117, .int x1] S = jval d 236 0 [.ref 117, .int x1, jjunk, jjunk] [] S := rfl
theorem c_TextValuesModel_runsChange (d : Nat) (x1 : Int32) (S : jS) : jcall (d + 1) 237 [.ref 117, .int x1] S = jval d 237 0 [.ref 117, .int x1, jjunk, jjunk, jjunk, jjunk] [] S := rfl
theorem c_TextValuesModel_runsOn (d : Nat) (x1 : Int32) (S : jS) : jcall (d + 1) 238 [.ref 117, .int x1] S = jval d 238 0 [.ref 117, .int x1, jjunk] [] S := rfl
theorem c_TextValuesModel_runs (d : Nat) (x1 : Int32) (S : jS) : jcall (d + 1) 239 [.ref 117, .int x1] S = jval d 239 0 [.ref 117, .int x1, jjunk, jjunk, jjunk] [] S := rfl
theorem c_TextValuesModel_ran (d : Nat) (x1 : Int32) (x2 : Int32) (S : jS) : jcall (d + 1) 240 [.ref 117, .int x1, .int x2] S = jval d 240 0 [.ref 117, .int x1, .int x2] [] S := rfl
theorem c_TextValuesModel_caught (d : Nat)  (S : jS) : jcall (d + 1) 241 [.ref 117] S = jval d 241 0 [.ref 117, jjunk, jjunk] [] S := rfl
theorem c_TextValuesModel_rang (d : Nat)  (S : jS) : jcall (d + 1) 242 [.ref 117] S = jval d 242 0 [.ref 117] [] S := rfl
theorem c_TextValuesModel_opensRow (d : Nat) (x1 : Int32) (S : jS) : jcall (d + 1) 243 [.ref 117, .int x1] S = jval d 243 0 [.ref 117, .int x1] [] S := rfl
theorem c_TextValuesModel_opensPattern (d : Nat) (x1 : Int32) (S : jS) : jcall (d + 1) 244 [.ref 117, .int x1] S = jval d 244 0 [.ref 117, .int x1] [] S := rfl
theorem c_TextValuesModel_closesRow (d : Nat) (x1 : Int32) (S : jS) : jcall (d + 1) 245 [.ref 117, .int x1] S = jval d 245 0 [.ref 117, .int x1] [] S := rfl
theorem c_TextValuesModel_follows (d : Nat) (x1 : Int32) (x2 : Int32) (S : jS) : jcall (d + 1) 246 [.ref 117, .int x1, .int x2] S = jval d 246 0 [.ref 117, .int x1, .int x2, jjunk] [] S := rfl
theorem c_TextValuesModel_lays (d : Nat) (x1 : Int32) (x2 : Int32) (x3 : Int32) (x4 : Int32) (S : jS) : jcall (d + 1) 247 [.ref 117, .int x1, .int x2, .int x3, .int x4] S = jval d 247 0 [.ref 117, .int x1, .int x2, .int x3, .int x4, jjunk, jjunk] [] S := rfl
theorem c_TextValuesModel_letter (d : Nat) (x1 : Int32) (x2 : Int32) (S : jS) : jcall (d + 1) 248 [.ref 117, .int x1, .int x2] S = jval d 248 0 [.ref 117, .int x1, .int x2, jjunk] [] S := rfl
theorem c_TextValuesModel_readsPattern (d : Nat)  (S : jS) : jcall (d + 1) 249 [.ref 117] S = jval d 249 0 [.ref 117, jjunk, jjunk] [] S := rfl
theorem c_TextValuesModel_leavesState (d : Nat)  (S : jS) : jcall (d + 1) 251 [.ref 117] S = jval d 251 0 [.ref 117, jjunk, jjunk] [] S := rfl
theorem c_TextValuesModel_tellsAgain (d : Nat)  (S : jS) : jcall (d + 1) 252 [.ref 117] S = jval d 252 0 [.ref 117, jjunk] [] S := rfl
theorem c_TextValuesModel_back (d : Nat)  (S : jS) : jcall (d + 1) 253 [.ref 117] S = jval d 253 0 [.ref 117, jjunk, jjunk] [] S := rfl
theorem c_TextValuesModel_type (d : Nat) (x1 : Int32) (S : jS) : jcall (d + 1) 254 [.ref 117, .int x1] S = jval d 254 0 [.ref 117, .int x1] [] S := rfl
theorem c_TextValuesModel_clear (d : Nat)  (S : jS) : jcall (d + 1) 255 [.ref 117] S = jval d 255 0 [.ref 117, jjunk] [] S := rfl
theorem c_TextValuesModel_readsText (d : Nat)  (S : jS) : jcall (d + 1) 256 [.ref 117] S = jval d 256 0 [.ref 117, jjunk] [] S := rfl
theorem c_TextValuesModel_pattern (d : Nat) (x1 : Int32) (S : jS) : jcall (d + 1) 257 [.ref 117, .int x1] S = jval d 257 0 [.ref 117, .int x1] [] S := rfl
theorem c_TextValuesModel_program (d : Nat)  (S : jS) : jcall (d + 1) 258 [.ref 117] S = jval d 258 0 [.ref 117, jjunk, jjunk] [] S := rfl
theorem c_TextValuesModel_sets (d : Nat) (x1 : Int32) (x2 : Int32) (S : jS) : jcall (d + 1) 259 [.ref 117, .int x1, .int x2] S = jval d 259 0 [.ref 117, .int x1, .int x2, jjunk] [] S := rfl
theorem c_TextValuesModel_slotOf (d : Nat) (x1 : Int32) (S : jS) : jcall (d + 1) 260 [.ref 117, .int x1] S = jval d 260 0 [.ref 117, .int x1] [] S := rfl
theorem c_TextValuesModel_isNowhere (d : Nat) (x1 : Int32) (S : jS) : jcall (d + 1) 261 [.ref 117, .int x1] S = jval d 261 0 [.ref 117, .int x1] [] S := rfl
theorem c_TextValuesModel_valueOf (d : Nat) (x1 : Int32) (x2 : Int32) (S : jS) : jcall (d + 1) 262 [.ref 117, .int x1, .int x2] S = jval d 262 0 [.ref 117, .int x1, .int x2] [] S := rfl
theorem c_TextValuesModel_value (d : Nat) (x1 : Int32) (x2 : Int32) (S : jS) : jcall (d + 1) 263 [.ref 117, .int x1, .int x2] S = jval d 263 0 [.ref 117, .int x1, .int x2] [] S := rfl
theorem c_TextValuesModel_many (d : Nat) (x1 : Int32) (x2 : Int32) (S : jS) : jcall (d + 1) 264 [.ref 117, .int x1, .int x2] S = jval d 264 0 [.ref 117, .int x1, .int x2] [] S := rfl
theorem c_TextValuesModel_text (d : Nat) (x1 : Int32) (x2 : Int32) (x3 : Int32) (S : jS) : jcall (d + 1) 265 [.ref 117, .int x1, .int x2, .int x3] S = jval d 265 0 [.ref 117, .int x1, .int x2, .int x3] [] S := rfl
theorem c_TextValuesModel_holds (d : Nat) (x1 : Int32) (S : jS) : jcall (d + 1) 266 [.ref 117, .int x1] S = jval d 266 0 [.ref 117, .int x1, jjunk, jjunk, jjunk, jjunk] [] S := rfl
theorem c_TextValuesModel_within (d : Nat) (x1 : Int32) (x2 : Int32) (S : jS) : jcall (d + 1) 267 [.ref 117, .int x1, .int x2] S = jval d 267 0 [.ref 117, .int x1, .int x2] [] S := rfl
theorem c_TextValuesModel_alarms (d : Nat)  (S : jS) : jcall (d + 1) 268 [.ref 117] S = jval d 268 0 [.ref 117] [] S := rfl
theorem c_TextValuesModel_alarmIs (d : Nat) (x1 : Int32) (x2 : Int32) (S : jS) : jcall (d + 1) 269 [.ref 117, .int x1, .int x2] S = jval d 269 0 [.ref 117, .int x1, .int x2] [] S := rfl
theorem c_TextValuesModel_alarm (d : Nat) (x1 : Int32) (x2 : Int32) (S : jS) : jcall (d + 1) 270 [.ref 117, .int x1, .int x2] S = jval d 270 0 [.ref 117, .int x1, .int x2] [] S := rfl
theorem c_TextValuesModel_raised (d : Nat) (x1 : Int32) (x2 : Int32) (S : jS) : jcall (d + 1) 271 [.ref 117, .int x1, .int x2] S = jval d 271 0 [.ref 117, .int x1, .int x2] [] S := rfl
theorem c_TextValuesModel_countOf (d : Nat) (x1 : Int32) (S : jS) : jcall (d + 1) 272 [.ref 117, .int x1] S = jval d 272 0 [.ref 117, .int x1] [] S := rfl
theorem c_TextValuesModel_count (d : Nat) (x1 : Int32) (S : jS) : jcall (d + 1) 273 [.ref 117, .int x1] S = jval d 273 0 [.ref 117, .int x1] [] S := rfl
theorem c_TextValuesModel_toldOf (d : Nat) (x1 : Int32) (S : jS) : jcall (d + 1) 274 [.ref 117, .int x1] S = jval d 274 0 [.ref 117, .int x1] [] S := rfl
theorem c_TextValuesModel_told (d : Nat) (x1 : Int32) (S : jS) : jcall (d + 1) 275 [.ref 117, .int x1] S = jval d 275 0 [.ref 117, .int x1] [] S := rfl
theorem c_TextValuesModel_digest (d : Nat)  (S : jS) : jcall (d + 1) 276 [.ref 117] S = jval d 276 0 [.ref 117, jjunk, jjunk, jjunk, jjunk] [] S := rfl
theorem c_Arrays_fill (d : Nat) (a0 : Nat) (x1 : Int32) (S : jS) : jcall (d + 1) 278 [.ref a0, .int x1] S = jval d 278 0 [.ref a0, .int x1, jjunk, jjunk] [] S := rfl
theorem c_Arrays_fill2 (d : Nat) (a0 : Nat) (x1 : Int32) (S : jS) : jcall (d + 1) 279 [.ref a0, .int x1] S = jval d 279 0 [.ref a0, .int x1, jjunk, jjunk] [] S := rfl
theorem c_Arrays_copyOf (d : Nat) (a0 : Nat) (x1 : Int32) (S : jS) : jcall (d + 1) 280 [.ref a0, .int x1] S = jval d 280 0 [.ref a0, .int x1, jjunk] [] S := rfl
theorem c_Arrays_copyOf2 (d : Nat) (a0 : Nat) (x1 : Int32) (S : jS) : jcall (d + 1) 281 [.ref a0, .int x1] S = jval d 281 0 [.ref a0, .int x1, jjunk] [] S := rfl
