theorem tb_1 {w : Cond} (i : Nat) (h : tables_1_1[i]? = some w) : w ∈ tables_1 := (List.mem_append_left _ (List.mem_of_getElem? h))
theorem tb_2 {w : Cond} (i : Nat) (h : tables_1_2[i]? = some w) : w ∈ tables_1 := (List.mem_append_right _ (List.mem_append_left _ (List.mem_of_getElem? h)))
theorem tb_3 {w : Cond} (i : Nat) (h : tables_1_3[i]? = some w) : w ∈ tables_1 := (List.mem_append_right _ (List.mem_append_right _ (List.mem_append_left _ (List.mem_of_getElem? h))))
theorem tb_4 {w : Cond} (i : Nat) (h : tables_1_4[i]? = some w) : w ∈ tables_1 := (List.mem_append_right _ (List.mem_append_right _ (List.mem_append_right _ (List.mem_append_left _ (List.mem_of_getElem? h)))))
theorem tb_5 {w : Cond} (i : Nat) (h : tables_1_5[i]? = some w) : w ∈ tables_1 := (List.mem_append_right _ (List.mem_append_right _ (List.mem_append_right _ (List.mem_append_right _ (List.mem_append_left _ (List.mem_of_getElem? h))))))
theorem tb_6 {w : Cond} (i : Nat) (h : tables_1_6[i]? = some w) : w ∈ tables_1 := (List.mem_append_right _ (List.mem_append_right _ (List.mem_append_right _ (List.mem_append_right _ (List.mem_append_right _ (List.mem_append_left _ (List.mem_of_getElem? h)))))))
theorem tb_7 {w : Cond} (i : Nat) (h : tables_1_7[i]? = some w) : w ∈ tables_1 := (List.mem_append_right _ (List.mem_append_right _ (List.mem_append_right _ (List.mem_append_right _ (List.mem_append_right _ (List.mem_append_right _ (List.mem_append_left _ (List.mem_of_getElem? h))))))))
theorem tb_8 {w : Cond} (i : Nat) (h : tables_1_8[i]? = some w) : w ∈ tables_1 := (List.mem_append_right _ (List.mem_append_right _ (List.mem_append_right _ (List.mem_append_right _ (List.mem_append_right _ (List.mem_append_right _ (List.mem_append_right _ (List.mem_of_getElem? h))))))))
def lw_okq (q : MethodName × Nat) : Prop := (q.1.cls ≠ "java/lang/invoke/MethodHandle" ∧ q.1.cls ≠ "java/lang/invoke/VarHandle") ∧ Cond.instantiable q.1.cls q.2 ∈ tables_1 ∧ Cond.privateMethod q.1 ∈ tables_1 ∧ Cond.instanceMethod q.1 ∈ tables_1
set_option maxRecDepth 100000 in
theorem lw_p0 : lw_okq (⟨"CoachesVote", "checkCoaches", "()I"⟩, 15) := ⟨⟨by decide +kernel, by decide +kernel⟩, (tb_1 26 rfl), (tb_2 198 rfl), (tb_2 199 rfl)⟩
set_option maxRecDepth 100000 in
theorem lw_p1 : lw_okq (⟨"CoachesVote", "checkPassengers", "()I"⟩, 15) := ⟨⟨by decide +kernel, by decide +kernel⟩, (tb_1 26 rfl), (tb_2 216 rfl), (tb_2 217 rfl)⟩
set_option maxRecDepth 100000 in
theorem lw_p2 : lw_okq (⟨"CoachesVote", "addPassenger", "(I)V"⟩, 15) := ⟨⟨by decide +kernel, by decide +kernel⟩, (tb_1 26 rfl), (tb_2 220 rfl), (tb_2 221 rfl)⟩
set_option maxRecDepth 100000 in
theorem lw_p3 : lw_okq (⟨"CoachesVote$Rule", "readLevel", "(LCoachesVote$Text;II)Z"⟩, 5) := ⟨⟨by decide +kernel, by decide +kernel⟩, (tb_1 151 rfl), (tb_3 9 rfl), (tb_3 10 rfl)⟩
set_option maxRecDepth 100000 in
theorem lw_p4 : lw_okq (⟨"CoachesVote$Rule", "readSigned", "(LCoachesVote$Text;I)Z"⟩, 5) := ⟨⟨by decide +kernel, by decide +kernel⟩, (tb_1 151 rfl), (tb_3 13 rfl), (tb_3 14 rfl)⟩
set_option maxRecDepth 100000 in
theorem lw_p5 : lw_okq (⟨"CoachesVote$Rule", "readThing", "(LCoachesVote$Text;I)Z"⟩, 5) := ⟨⟨by decide +kernel, by decide +kernel⟩, (tb_1 151 rfl), (tb_3 18 rfl), (tb_3 19 rfl)⟩
set_option maxRecDepth 100000 in
theorem lw_p6 : lw_okq (⟨"CoachesVote$Rule", "readNumber", "(LCoachesVote$Text;)Z"⟩, 5) := ⟨⟨by decide +kernel, by decide +kernel⟩, (tb_1 151 rfl), (tb_3 25 rfl), (tb_3 26 rfl)⟩
set_option maxRecDepth 100000 in
theorem lw_p7 : lw_okq (⟨"CoachesVote", "makeRun", "()I"⟩, 15) := ⟨⟨by decide +kernel, by decide +kernel⟩, (tb_1 26 rfl), (tb_3 61 rfl), (tb_3 62 rfl)⟩
set_option maxRecDepth 100000 in
theorem lw_p8 : lw_okq (⟨"CoachesVote", "drive", "(II)I"⟩, 15) := ⟨⟨by decide +kernel, by decide +kernel⟩, (tb_1 26 rfl), (tb_3 152 rfl), (tb_3 153 rfl)⟩
set_option maxRecDepth 100000 in
theorem lw_p9 : lw_okq (⟨"CoachesVote", "noted", "(I)I"⟩, 15) := ⟨⟨by decide +kernel, by decide +kernel⟩, (tb_1 26 rfl), (tb_3 165 rfl), (tb_3 166 rfl)⟩
set_option maxRecDepth 100000 in
theorem lw_p10 : lw_okq (⟨"CoachesVote", "takeStanding", "()I"⟩, 15) := ⟨⟨by decide +kernel, by decide +kernel⟩, (tb_1 26 rfl), (tb_3 173 rfl), (tb_3 174 rfl)⟩
set_option maxRecDepth 100000 in
theorem lw_p11 : lw_okq (⟨"CoachesVote", "uncouple", "(I)I"⟩, 15) := ⟨⟨by decide +kernel, by decide +kernel⟩, (tb_1 26 rfl), (tb_3 195 rfl), (tb_3 196 rfl)⟩
set_option maxRecDepth 100000 in
theorem lw_p12 : lw_okq (⟨"CoachesVote", "changeCoach", "(II)I"⟩, 15) := ⟨⟨by decide +kernel, by decide +kernel⟩, (tb_1 26 rfl), (tb_3 204 rfl), (tb_3 205 rfl)⟩
set_option maxRecDepth 100000 in
theorem lw_p13 : lw_okq (⟨"CoachesVote", "letPass", "(I)I"⟩, 15) := ⟨⟨by decide +kernel, by decide +kernel⟩, (tb_1 26 rfl), (tb_3 227 rfl), (tb_3 228 rfl)⟩
set_option maxRecDepth 100000 in
theorem lw_p14 : lw_okq (⟨"CoachesVote", "checkNight", "()I"⟩, 15) := ⟨⟨by decide +kernel, by decide +kernel⟩, (tb_1 26 rfl), (tb_3 235 rfl), (tb_3 236 rfl)⟩
set_option maxRecDepth 100000 in
theorem lw_p15 : lw_okq (⟨"CoachesVote", "actEnd", "(I)I"⟩, 15) := ⟨⟨by decide +kernel, by decide +kernel⟩, (tb_1 26 rfl), (tb_3 239 rfl), (tb_4 0 rfl)⟩
set_option maxRecDepth 100000 in
theorem lw_p16 : lw_okq (⟨"CoachesVote", "actEndBehind", "(II)I"⟩, 15) := ⟨⟨by decide +kernel, by decide +kernel⟩, (tb_1 26 rfl), (tb_4 4 rfl), (tb_4 5 rfl)⟩
set_option maxRecDepth 100000 in
theorem lw_p17 : lw_okq (⟨"CoachesVote", "doAct", "(I)I"⟩, 15) := ⟨⟨by decide +kernel, by decide +kernel⟩, (tb_1 26 rfl), (tb_4 8 rfl), (tb_4 9 rfl)⟩
set_option maxRecDepth 100000 in
theorem lw_p18 : lw_okq (⟨"CoachesVote", "outMoreThan", "(LCoachesVote$Train;LCoachesVote$Train;)I"⟩, 15) := ⟨⟨by decide +kernel, by decide +kernel⟩, (tb_1 26 rfl), (tb_4 12 rfl), (tb_4 13 rfl)⟩
set_option maxRecDepth 100000 in
theorem lw_p19 : lw_okq (⟨"CoachesVote", "outMoreIn", "(ILCoachesVote$Net;LCoachesVote$Rule;Z)I"⟩, 15) := ⟨⟨by decide +kernel, by decide +kernel⟩, (tb_1 26 rfl), (tb_4 48 rfl), (tb_4 49 rfl)⟩
set_option maxRecDepth 100000 in
theorem lw_p20 : lw_okq (⟨"CoachesVote", "runsTillOut", "(II)I"⟩, 15) := ⟨⟨by decide +kernel, by decide +kernel⟩, (tb_1 26 rfl), (tb_4 65 rfl), (tb_4 66 rfl)⟩
set_option maxRecDepth 100000 in
theorem lw_p21 : lw_okq (⟨"CoachesVote", "heldVote", "()LCoachesVote$Voting;"⟩, 15) := ⟨⟨by decide +kernel, by decide +kernel⟩, (tb_1 26 rfl), (tb_4 73 rfl), (tb_4 74 rfl)⟩
set_option maxRecDepth 100000 in
theorem lw_p22 : lw_okq (⟨"CoachesVote", "tellFraction", "(JJ)V"⟩, 15) := ⟨⟨by decide +kernel, by decide +kernel⟩, (tb_1 26 rfl), (tb_4 103 rfl), (tb_4 104 rfl)⟩
set_option maxRecDepth 100000 in
theorem lw_p23 : lw_okq (⟨"CoachesVote", "canMove", "(II)Z"⟩, 15) := ⟨⟨by decide +kernel, by decide +kernel⟩, (tb_1 26 rfl), (tb_4 125 rfl), (tb_4 126 rfl)⟩
set_option maxRecDepth 100000 in
theorem lw_p24 : lw_okq (⟨"CoachesVote", "draw", "(I)I"⟩, 15) := ⟨⟨by decide +kernel, by decide +kernel⟩, (tb_1 26 rfl), (tb_5 12 rfl), (tb_5 13 rfl)⟩
set_option maxRecDepth 100000 in
theorem lw_p25 : lw_okq (⟨"CoachesVote", "drawMove", "()V"⟩, 15) := ⟨⟨by decide +kernel, by decide +kernel⟩, (tb_1 26 rfl), (tb_5 17 rfl), (tb_5 18 rfl)⟩
set_option maxRecDepth 100000 in
theorem lw_p26 : lw_okq (⟨"java/lang/Throwable", "fillInStackTrace", "(I)Ljava/lang/Throwable;"⟩, 6) := ⟨⟨by decide +kernel, by decide +kernel⟩, (tb_5 87 rfl), (tb_5 85 rfl), (tb_5 86 rfl)⟩
set_option maxRecDepth 100000 in
theorem lw_p27 : lw_okq (⟨"CoachesVoteModel", "begins", "(I)I"⟩, 50) := ⟨⟨by decide +kernel, by decide +kernel⟩, (tb_5 144 rfl), (tb_6 80 rfl), (tb_6 81 rfl)⟩
set_option maxRecDepth 100000 in
theorem lw_p28 : lw_okq (⟨"CoachesVoteModel", "signIn", "(III)I"⟩, 50) := ⟨⟨by decide +kernel, by decide +kernel⟩, (tb_5 144 rfl), (tb_6 85 rfl), (tb_6 86 rfl)⟩
set_option maxRecDepth 100000 in
theorem lw_p29 : lw_okq (⟨"CoachesVoteModel", "takes", "(I)Z"⟩, 50) := ⟨⟨by decide +kernel, by decide +kernel⟩, (tb_5 144 rfl), (tb_6 89 rfl), (tb_6 90 rfl)⟩
set_option maxRecDepth 100000 in
theorem lw_p30 : lw_okq (⟨"CoachesVoteModel", "readsExit", "(II)Z"⟩, 50) := ⟨⟨by decide +kernel, by decide +kernel⟩, (tb_5 144 rfl), (tb_6 96 rfl), (tb_6 97 rfl)⟩
set_option maxRecDepth 100000 in
theorem lw_p31 : lw_okq (⟨"CoachesVoteModel", "faultOf", "(IIZ)I"⟩, 50) := ⟨⟨by decide +kernel, by decide +kernel⟩, (tb_5 144 rfl), (tb_6 100 rfl), (tb_6 101 rfl)⟩
set_option maxRecDepth 100000 in
theorem lw_p32 : lw_okq (⟨"CoachesVoteModel", "laysWays", "()V"⟩, 50) := ⟨⟨by decide +kernel, by decide +kernel⟩, (tb_5 144 rfl), (tb_6 104 rfl), (tb_6 105 rfl)⟩
set_option maxRecDepth 100000 in
theorem lw_p33 : lw_okq (⟨"CoachesVoteModel", "trainLong", "([I)I"⟩, 50) := ⟨⟨by decide +kernel, by decide +kernel⟩, (tb_5 144 rfl), (tb_6 113 rfl), (tb_6 114 rfl)⟩
set_option maxRecDepth 100000 in
theorem lw_p34 : lw_okq (⟨"CoachesVoteModel", "came", "()I"⟩, 50) := ⟨⟨by decide +kernel, by decide +kernel⟩, (tb_5 144 rfl), (tb_6 120 rfl), (tb_6 121 rfl)⟩
set_option maxRecDepth 100000 in
theorem lw_p35 : lw_okq (⟨"CoachesVoteModel", "readsPassenger", "()Z"⟩, 50) := ⟨⟨by decide +kernel, by decide +kernel⟩, (tb_5 144 rfl), (tb_6 128 rfl), (tb_6 129 rfl)⟩
set_option maxRecDepth 100000 in
theorem lw_p36 : lw_okq (⟨"CoachesVoteModel", "readsRule", "()I"⟩, 50) := ⟨⟨by decide +kernel, by decide +kernel⟩, (tb_5 144 rfl), (tb_6 139 rfl), (tb_6 140 rfl)⟩
set_option maxRecDepth 100000 in
theorem lw_p37 : lw_okq (⟨"CoachesVoteModel", "readsRank", "(I)Z"⟩, 50) := ⟨⟨by decide +kernel, by decide +kernel⟩, (tb_5 144 rfl), (tb_6 143 rfl), (tb_6 144 rfl)⟩
set_option maxRecDepth 100000 in
theorem lw_p38 : lw_okq (⟨"CoachesVoteModel", "readsThing", "()Z"⟩, 50) := ⟨⟨by decide +kernel, by decide +kernel⟩, (tb_5 144 rfl), (tb_6 147 rfl), (tb_6 148 rfl)⟩
set_option maxRecDepth 100000 in
theorem lw_p39 : lw_okq (⟨"CoachesVoteModel", "codes", "(I)V"⟩, 50) := ⟨⟨by decide +kernel, by decide +kernel⟩, (tb_5 144 rfl), (tb_6 151 rfl), (tb_6 152 rfl)⟩
set_option maxRecDepth 100000 in
theorem lw_p40 : lw_okq (⟨"CoachesVoteModel", "isDigit", "()Z"⟩, 50) := ⟨⟨by decide +kernel, by decide +kernel⟩, (tb_5 144 rfl), (tb_6 155 rfl), (tb_6 156 rfl)⟩
set_option maxRecDepth 100000 in
theorem lw_p41 : lw_okq (⟨"CoachesVoteModel", "number", "(I)I"⟩, 50) := ⟨⟨by decide +kernel, by decide +kernel⟩, (tb_5 144 rfl), (tb_6 161 rfl), (tb_6 162 rfl)⟩
set_option maxRecDepth 100000 in
theorem lw_p42 : lw_okq (⟨"CoachesVoteModel", "takesOf", "(Ljava/lang/String;)I"⟩, 50) := ⟨⟨by decide +kernel, by decide +kernel⟩, (tb_5 144 rfl), (tb_6 166 rfl), (tb_6 167 rfl)⟩
set_option maxRecDepth 100000 in
theorem lw_p43 : lw_okq (⟨"CoachesVoteModel", "among", "(Ljava/lang/String;)I"⟩, 50) := ⟨⟨by decide +kernel, by decide +kernel⟩, (tb_5 144 rfl), (tb_6 170 rfl), (tb_6 171 rfl)⟩
set_option maxRecDepth 100000 in
theorem lw_p44 : lw_okq (⟨"CoachesVoteModel", "laysCode", "([II)V"⟩, 50) := ⟨⟨by decide +kernel, by decide +kernel⟩, (tb_5 144 rfl), (tb_6 225 rfl), (tb_6 226 rfl)⟩
set_option maxRecDepth 100000 in
theorem lw_p45 : lw_okq (⟨"CoachesVoteModel", "isHalt", "(I)Z"⟩, 50) := ⟨⟨by decide +kernel, by decide +kernel⟩, (tb_5 144 rfl), (tb_6 233 rfl), (tb_6 234 rfl)⟩
set_option maxRecDepth 100000 in
theorem lw_p46 : lw_okq (⟨"CoachesVoteModel", "refuse", "()I"⟩, 50) := ⟨⟨by decide +kernel, by decide +kernel⟩, (tb_5 144 rfl), (tb_6 238 rfl), (tb_6 239 rfl)⟩
set_option maxRecDepth 100000 in
theorem lw_p47 : lw_okq (⟨"CoachesVoteModel", "standingAt", "([II)I"⟩, 50) := ⟨⟨by decide +kernel, by decide +kernel⟩, (tb_5 144 rfl), (tb_7 2 rfl), (tb_7 3 rfl)⟩
set_option maxRecDepth 100000 in
theorem lw_p48 : lw_okq (⟨"CoachesVoteModel", "isCoach", "(I)Z"⟩, 50) := ⟨⟨by decide +kernel, by decide +kernel⟩, (tb_5 144 rfl), (tb_7 10 rfl), (tb_7 11 rfl)⟩
set_option maxRecDepth 100000 in
theorem lw_p49 : lw_okq (⟨"CoachesVoteModel", "voteOf", "([II)I"⟩, 50) := ⟨⟨by decide +kernel, by decide +kernel⟩, (tb_5 144 rfl), (tb_7 15 rfl), (tb_7 16 rfl)⟩
set_option maxRecDepth 100000 in
theorem lw_p50 : lw_okq (⟨"CoachesVoteModel", "sitting", "([II)I"⟩, 50) := ⟨⟨by decide +kernel, by decide +kernel⟩, (tb_5 144 rfl), (tb_7 19 rfl), (tb_7 20 rfl)⟩
set_option maxRecDepth 100000 in
theorem lw_p51 : lw_okq (⟨"CoachesVoteModel", "polls", "([II)V"⟩, 50) := ⟨⟨by decide +kernel, by decide +kernel⟩, (tb_5 144 rfl), (tb_7 23 rfl), (tb_7 24 rfl)⟩
set_option maxRecDepth 100000 in
theorem lw_p52 : lw_okq (⟨"CoachesVoteModel", "wishOf", "([II)I"⟩, 50) := ⟨⟨by decide +kernel, by decide +kernel⟩, (tb_5 144 rfl), (tb_7 30 rfl), (tb_7 31 rfl)⟩
set_option maxRecDepth 100000 in
theorem lw_p53 : lw_okq (⟨"CoachesVoteModel", "farOf", "(II)I"⟩, 50) := ⟨⟨by decide +kernel, by decide +kernel⟩, (tb_5 144 rfl), (tb_7 34 rfl), (tb_7 35 rfl)⟩
set_option maxRecDepth 100000 in
theorem lw_p54 : lw_okq (⟨"CoachesVoteModel", "beginsWay", "(III)Z"⟩, 50) := ⟨⟨by decide +kernel, by decide +kernel⟩, (tb_5 144 rfl), (tb_7 38 rfl), (tb_7 39 rfl)⟩
set_option maxRecDepth 100000 in
theorem lw_p55 : lw_okq (⟨"CoachesVoteModel", "votesOf", "([II)I"⟩, 50) := ⟨⟨by decide +kernel, by decide +kernel⟩, (tb_5 144 rfl), (tb_7 42 rfl), (tb_7 43 rfl)⟩
set_option maxRecDepth 100000 in
theorem lw_p56 : lw_okq (⟨"CoachesVoteModel", "ruled", "()I"⟩, 50) := ⟨⟨by decide +kernel, by decide +kernel⟩, (tb_5 144 rfl), (tb_7 47 rfl), (tb_7 48 rfl)⟩
set_option maxRecDepth 100000 in
theorem lw_p57 : lw_okq (⟨"CoachesVoteModel", "polled", "()I"⟩, 50) := ⟨⟨by decide +kernel, by decide +kernel⟩, (tb_5 144 rfl), (tb_7 55 rfl), (tb_7 56 rfl)⟩
set_option maxRecDepth 100000 in
theorem lw_p58 : lw_okq (⟨"CoachesVoteModel", "isPassenger", "(I)Z"⟩, 50) := ⟨⟨by decide +kernel, by decide +kernel⟩, (tb_5 144 rfl), (tb_7 63 rfl), (tb_7 64 rfl)⟩
set_option maxRecDepth 100000 in
theorem lw_p59 : lw_okq (⟨"CoachesVoteModel", "putsBy", "()V"⟩, 50) := ⟨⟨by decide +kernel, by decide +kernel⟩, (tb_5 144 rfl), (tb_7 81 rfl), (tb_7 82 rfl)⟩
set_option maxRecDepth 100000 in
theorem lw_p60 : lw_okq (⟨"CoachesVoteModel", "outs", "([I)I"⟩, 50) := ⟨⟨by decide +kernel, by decide +kernel⟩, (tb_5 144 rfl), (tb_7 85 rfl), (tb_7 86 rfl)⟩
set_option maxRecDepth 100000 in
theorem lw_p61 : lw_okq (⟨"CoachesVoteModel", "runs", "([I)I"⟩, 50) := ⟨⟨by decide +kernel, by decide +kernel⟩, (tb_5 144 rfl), (tb_7 89 rfl), (tb_7 90 rfl)⟩
set_option maxRecDepth 100000 in
theorem lw_p62 : lw_okq (⟨"CoachesVoteModel", "trainVote", "([I)I"⟩, 50) := ⟨⟨by decide +kernel, by decide +kernel⟩, (tb_5 144 rfl), (tb_7 93 rfl), (tb_7 94 rfl)⟩
set_option maxRecDepth 100000 in
theorem lw_p63 : lw_okq (⟨"CoachesVoteModel", "riding", "([I)I"⟩, 50) := ⟨⟨by decide +kernel, by decide +kernel⟩, (tb_5 144 rfl), (tb_7 97 rfl), (tb_7 98 rfl)⟩
set_option maxRecDepth 100000 in
theorem lw_p64 : lw_okq (⟨"CoachesVoteModel", "runsBy", "([II)I"⟩, 50) := ⟨⟨by decide +kernel, by decide +kernel⟩, (tb_5 144 rfl), (tb_7 101 rfl), (tb_7 102 rfl)⟩
set_option maxRecDepth 100000 in
theorem lw_p65 : lw_okq (⟨"CoachesVoteModel", "goingAlong", "([II)I"⟩, 50) := ⟨⟨by decide +kernel, by decide +kernel⟩, (tb_5 144 rfl), (tb_7 108 rfl), (tb_7 109 rfl)⟩
set_option maxRecDepth 100000 in
theorem lw_p66 : lw_okq (⟨"CoachesVoteModel", "coachAt", "([II)I"⟩, 50) := ⟨⟨by decide +kernel, by decide +kernel⟩, (tb_5 144 rfl), (tb_7 112 rfl), (tb_7 113 rfl)⟩
set_option maxRecDepth 100000 in
theorem lw_p67 : lw_okq (⟨"CoachesVoteModel", "leavesFrom", "([II)V"⟩, 50) := ⟨⟨by decide +kernel, by decide +kernel⟩, (tb_5 144 rfl), (tb_7 116 rfl), (tb_7 117 rfl)⟩
set_option maxRecDepth 100000 in
theorem lw_p68 : lw_okq (⟨"CoachesVoteModel", "goesBy", "([II)V"⟩, 50) := ⟨⟨by decide +kernel, by decide +kernel⟩, (tb_5 144 rfl), (tb_7 120 rfl), (tb_7 121 rfl)⟩
set_option maxRecDepth 100000 in
theorem lw_p69 : lw_okq (⟨"CoachesVoteModel", "getOut", "([I)V"⟩, 50) := ⟨⟨by decide +kernel, by decide +kernel⟩, (tb_5 144 rfl), (tb_7 124 rfl), (tb_7 125 rfl)⟩
set_option maxRecDepth 100000 in
theorem lw_p70 : lw_okq (⟨"CoachesVoteModel", "enters", "(J)V"⟩, 50) := ⟨⟨by decide +kernel, by decide +kernel⟩, (tb_5 144 rfl), (tb_7 128 rfl), (tb_7 129 rfl)⟩
set_option maxRecDepth 100000 in
theorem lw_p71 : lw_okq (⟨"CoachesVoteModel", "adds", "(I)I"⟩, 50) := ⟨⟨by decide +kernel, by decide +kernel⟩, (tb_5 144 rfl), (tb_7 132 rfl), (tb_7 133 rfl)⟩
set_option maxRecDepth 100000 in
theorem lw_p72 : lw_okq (⟨"CoachesVoteModel", "goes", "([III)I"⟩, 50) := ⟨⟨by decide +kernel, by decide +kernel⟩, (tb_5 144 rfl), (tb_7 140 rfl), (tb_7 141 rfl)⟩
set_option maxRecDepth 100000 in
theorem lw_p73 : lw_okq (⟨"CoachesVoteModel", "couples", "([I)I"⟩, 50) := ⟨⟨by decide +kernel, by decide +kernel⟩, (tb_5 144 rfl), (tb_7 148 rfl), (tb_7 149 rfl)⟩
set_option maxRecDepth 100000 in
theorem lw_p74 : lw_okq (⟨"CoachesVoteModel", "counts", "(I)I"⟩, 50) := ⟨⟨by decide +kernel, by decide +kernel⟩, (tb_5 144 rfl), (tb_7 152 rfl), (tb_7 153 rfl)⟩
set_option maxRecDepth 100000 in
theorem lw_p75 : lw_okq (⟨"CoachesVoteModel", "cuts", "([II)I"⟩, 50) := ⟨⟨by decide +kernel, by decide +kernel⟩, (tb_5 144 rfl), (tb_7 160 rfl), (tb_7 161 rfl)⟩
set_option maxRecDepth 100000 in
theorem lw_p76 : lw_okq (⟨"CoachesVoteModel", "walks", "([III)I"⟩, 50) := ⟨⟨by decide +kernel, by decide +kernel⟩, (tb_5 144 rfl), (tb_7 168 rfl), (tb_7 169 rfl)⟩
set_option maxRecDepth 100000 in
theorem lw_p77 : lw_okq (⟨"CoachesVoteModel", "readsAct", "()Z"⟩, 50) := ⟨⟨by decide +kernel, by decide +kernel⟩, (tb_5 144 rfl), (tb_7 182 rfl), (tb_7 183 rfl)⟩
set_option maxRecDepth 100000 in
theorem lw_p78 : lw_okq (⟨"CoachesVoteModel", "does", "(I)Z"⟩, 50) := ⟨⟨by decide +kernel, by decide +kernel⟩, (tb_5 144 rfl), (tb_7 188 rfl), (tb_7 189 rfl)⟩
set_option maxRecDepth 100000 in
theorem lw_p79 : lw_okq (⟨"CoachesVoteModel", "puts", "()V"⟩, 50) := ⟨⟨by decide +kernel, by decide +kernel⟩, (tb_5 144 rfl), (tb_7 200 rfl), (tb_7 201 rfl)⟩
set_option maxRecDepth 100000 in
theorem lw_p80 : lw_okq (⟨"CoachesVoteModel", "outIn", "(I)I"⟩, 50) := ⟨⟨by decide +kernel, by decide +kernel⟩, (tb_5 144 rfl), (tb_7 209 rfl), (tb_7 210 rfl)⟩
set_option maxRecDepth 100000 in
theorem lw_p81 : lw_okq (⟨"CoachesVoteModel", "outMany", "([I)I"⟩, 50) := ⟨⟨by decide +kernel, by decide +kernel⟩, (tb_5 144 rfl), (tb_7 213 rfl), (tb_7 214 rfl)⟩
set_option maxRecDepth 100000 in
theorem lw_p82 : lw_okq (⟨"CoachesVoteModel", "train", "([I)I"⟩, 50) := ⟨⟨by decide +kernel, by decide +kernel⟩, (tb_5 144 rfl), (tb_7 217 rfl), (tb_7 218 rfl)⟩
set_option maxRecDepth 100000 in
theorem lw_p83 : lw_okq (⟨"CoachesVoteModel", "outAfter", "(I)I"⟩, 50) := ⟨⟨by decide +kernel, by decide +kernel⟩, (tb_5 144 rfl), (tb_7 225 rfl), (tb_7 226 rfl)⟩
set_option maxRecDepth 100000 in
theorem lw_p84 : lw_okq (⟨"CoachesVoteModel", "tellsFraction", "(JJ)V"⟩, 50) := ⟨⟨by decide +kernel, by decide +kernel⟩, (tb_5 144 rfl), (tb_7 237 rfl), (tb_7 238 rfl)⟩
set_option maxRecDepth 100000 in
theorem lw_p85 : lw_okq (⟨"CoachesVoteModel", "fetches", "(IIIII)V"⟩, 50) := ⟨⟨by decide +kernel, by decide +kernel⟩, (tb_5 144 rfl), (tb_8 26 rfl), (tb_8 27 rfl)⟩
set_option maxRecDepth 100000 in
theorem lw_p86 : lw_okq (⟨"CoachesVoteModel", "byHeads", "([I)I"⟩, 50) := ⟨⟨by decide +kernel, by decide +kernel⟩, (tb_5 144 rfl), (tb_8 38 rfl), (tb_8 39 rfl)⟩
set_option maxRecDepth 100000 in
theorem lw_p87 : lw_okq (⟨"CoachesVoteModel", "lastSeen", "()I"⟩, 50) := ⟨⟨by decide +kernel, by decide +kernel⟩, (tb_5 144 rfl), (tb_8 54 rfl), (tb_8 55 rfl)⟩
set_option maxRecDepth 100000 in
theorem lw_p88 : lw_okq (⟨"CoachesVoteModel", "laysRows", "(I)V"⟩, 50) := ⟨⟨by decide +kernel, by decide +kernel⟩, (tb_5 144 rfl), (tb_8 58 rfl), (tb_8 59 rfl)⟩
set_option maxRecDepth 100000 in
theorem lw_p89 : lw_okq (⟨"CoachesVoteModel", "rowsBy", "(III)I"⟩, 50) := ⟨⟨by decide +kernel, by decide +kernel⟩, (tb_5 144 rfl), (tb_8 62 rfl), (tb_8 63 rfl)⟩
set_option maxRecDepth 100000 in
theorem lw_p90 : lw_okq (⟨"CoachesVoteModel", "fits", "(II)Z"⟩, 50) := ⟨⟨by decide +kernel, by decide +kernel⟩, (tb_5 144 rfl), (tb_8 66 rfl), (tb_8 67 rfl)⟩
set_option maxRecDepth 100000 in
theorem lw_p91 : lw_okq (⟨"CoachesVoteModel", "beenBehind", "(I)I"⟩, 50) := ⟨⟨by decide +kernel, by decide +kernel⟩, (tb_5 144 rfl), (tb_8 74 rfl), (tb_8 75 rfl)⟩
set_option maxRecDepth 100000 in
theorem lw_p92 : lw_okq (⟨"CoachesVoteModel", "draws", "(I)I"⟩, 50) := ⟨⟨by decide +kernel, by decide +kernel⟩, (tb_5 144 rfl), (tb_8 103 rfl), (tb_8 104 rfl)⟩
def lw_privs : List (MethodName × Nat) := [(⟨"CoachesVote", "checkCoaches", "()I"⟩, 15), (⟨"CoachesVote", "checkPassengers", "()I"⟩, 15), (⟨"CoachesVote", "addPassenger", "(I)V"⟩, 15), (⟨"CoachesVote$Rule", "readLevel", "(LCoachesVote$Text;II)Z"⟩, 5), (⟨"CoachesVote$Rule", "readSigned", "(LCoachesVote$Text;I)Z"⟩, 5), (⟨"CoachesVote$Rule", "readThing", "(LCoachesVote$Text;I)Z"⟩, 5), (⟨"CoachesVote$Rule", "readNumber", "(LCoachesVote$Text;)Z"⟩, 5), (⟨"CoachesVote", "makeRun", "()I"⟩, 15), (⟨"CoachesVote", "drive", "(II)I"⟩, 15), (⟨"CoachesVote", "noted", "(I)I"⟩, 15), (⟨"CoachesVote", "takeStanding", "()I"⟩, 15), (⟨"CoachesVote", "uncouple", "(I)I"⟩, 15), (⟨"CoachesVote", "changeCoach", "(II)I"⟩, 15), (⟨"CoachesVote", "letPass", "(I)I"⟩, 15), (⟨"CoachesVote", "checkNight", "()I"⟩, 15), (⟨"CoachesVote", "actEnd", "(I)I"⟩, 15), (⟨"CoachesVote", "actEndBehind", "(II)I"⟩, 15), (⟨"CoachesVote", "doAct", "(I)I"⟩, 15), (⟨"CoachesVote", "outMoreThan", "(LCoachesVote$Train;LCoachesVote$Train;)I"⟩, 15), (⟨"CoachesVote", "outMoreIn", "(ILCoachesVote$Net;LCoachesVote$Rule;Z)I"⟩, 15), (⟨"CoachesVote", "runsTillOut", "(II)I"⟩, 15), (⟨"CoachesVote", "heldVote", "()LCoachesVote$Voting;"⟩, 15), (⟨"CoachesVote", "tellFraction", "(JJ)V"⟩, 15), (⟨"CoachesVote", "canMove", "(II)Z"⟩, 15), (⟨"CoachesVote", "draw", "(I)I"⟩, 15), (⟨"CoachesVote", "drawMove", "()V"⟩, 15), (⟨"java/lang/Throwable", "fillInStackTrace", "(I)Ljava/lang/Throwable;"⟩, 6), (⟨"CoachesVoteModel", "begins", "(I)I"⟩, 50), (⟨"CoachesVoteModel", "signIn", "(III)I"⟩, 50), (⟨"CoachesVoteModel", "takes", "(I)Z"⟩, 50), (⟨"CoachesVoteModel", "readsExit", "(II)Z"⟩, 50), (⟨"CoachesVoteModel", "faultOf", "(IIZ)I"⟩, 50), (⟨"CoachesVoteModel", "laysWays", "()V"⟩, 50), (⟨"CoachesVoteModel", "trainLong", "([I)I"⟩, 50), (⟨"CoachesVoteModel", "came", "()I"⟩, 50), (⟨"CoachesVoteModel", "readsPassenger", "()Z"⟩, 50), (⟨"CoachesVoteModel", "readsRule", "()I"⟩, 50), (⟨"CoachesVoteModel", "readsRank", "(I)Z"⟩, 50), (⟨"CoachesVoteModel", "readsThing", "()Z"⟩, 50), (⟨"CoachesVoteModel", "codes", "(I)V"⟩, 50), (⟨"CoachesVoteModel", "isDigit", "()Z"⟩, 50), (⟨"CoachesVoteModel", "number", "(I)I"⟩, 50), (⟨"CoachesVoteModel", "takesOf", "(Ljava/lang/String;)I"⟩, 50), (⟨"CoachesVoteModel", "among", "(Ljava/lang/String;)I"⟩, 50), (⟨"CoachesVoteModel", "laysCode", "([II)V"⟩, 50), (⟨"CoachesVoteModel", "isHalt", "(I)Z"⟩, 50), (⟨"CoachesVoteModel", "refuse", "()I"⟩, 50), (⟨"CoachesVoteModel", "standingAt", "([II)I"⟩, 50), (⟨"CoachesVoteModel", "isCoach", "(I)Z"⟩, 50), (⟨"CoachesVoteModel", "voteOf", "([II)I"⟩, 50), (⟨"CoachesVoteModel", "sitting", "([II)I"⟩, 50), (⟨"CoachesVoteModel", "polls", "([II)V"⟩, 50), (⟨"CoachesVoteModel", "wishOf", "([II)I"⟩, 50), (⟨"CoachesVoteModel", "farOf", "(II)I"⟩, 50), (⟨"CoachesVoteModel", "beginsWay", "(III)Z"⟩, 50), (⟨"CoachesVoteModel", "votesOf", "([II)I"⟩, 50), (⟨"CoachesVoteModel", "ruled", "()I"⟩, 50), (⟨"CoachesVoteModel", "polled", "()I"⟩, 50), (⟨"CoachesVoteModel", "isPassenger", "(I)Z"⟩, 50), (⟨"CoachesVoteModel", "putsBy", "()V"⟩, 50), (⟨"CoachesVoteModel", "outs", "([I)I"⟩, 50), (⟨"CoachesVoteModel", "runs", "([I)I"⟩, 50), (⟨"CoachesVoteModel", "trainVote", "([I)I"⟩, 50), (⟨"CoachesVoteModel", "riding", "([I)I"⟩, 50), (⟨"CoachesVoteModel", "runsBy", "([II)I"⟩, 50), (⟨"CoachesVoteModel", "goingAlong", "([II)I"⟩, 50), (⟨"CoachesVoteModel", "coachAt", "([II)I"⟩, 50), (⟨"CoachesVoteModel", "leavesFrom", "([II)V"⟩, 50), (⟨"CoachesVoteModel", "goesBy", "([II)V"⟩, 50), (⟨"CoachesVoteModel", "getOut", "([I)V"⟩, 50), (⟨"CoachesVoteModel", "enters", "(J)V"⟩, 50), (⟨"CoachesVoteModel", "adds", "(I)I"⟩, 50), (⟨"CoachesVoteModel", "goes", "([III)I"⟩, 50), (⟨"CoachesVoteModel", "couples", "([I)I"⟩, 50), (⟨"CoachesVoteModel", "counts", "(I)I"⟩, 50), (⟨"CoachesVoteModel", "cuts", "([II)I"⟩, 50), (⟨"CoachesVoteModel", "walks", "([III)I"⟩, 50), (⟨"CoachesVoteModel", "readsAct", "()Z"⟩, 50), (⟨"CoachesVoteModel", "does", "(I)Z"⟩, 50), (⟨"CoachesVoteModel", "puts", "()V"⟩, 50), (⟨"CoachesVoteModel", "outIn", "(I)I"⟩, 50), (⟨"CoachesVoteModel", "outMany", "([I)I"⟩, 50), (⟨"CoachesVoteModel", "train", "([I)I"⟩, 50), (⟨"CoachesVoteModel", "outAfter", "(I)I"⟩, 50), (⟨"CoachesVoteModel", "tellsFraction", "(JJ)V"⟩, 50), (⟨"CoachesVoteModel", "fetches", "(IIIII)V"⟩, 50), (⟨"CoachesVoteModel", "byHeads", "([I)I"⟩, 50), (⟨"CoachesVoteModel", "lastSeen", "()I"⟩, 50), (⟨"CoachesVoteModel", "laysRows", "(I)V"⟩, 50), (⟨"CoachesVoteModel", "rowsBy", "(III)I"⟩, 50), (⟨"CoachesVoteModel", "fits", "(II)Z"⟩, 50), (⟨"CoachesVoteModel", "beenBehind", "(I)I"⟩, 50), (⟨"CoachesVoteModel", "draws", "(I)I"⟩, 50)]
theorem lw_privs_ok : ∀ q ∈ lw_privs, lw_okq q := List.forall_mem_cons.mpr ⟨lw_p0, List.forall_mem_cons.mpr ⟨lw_p1, List.forall_mem_cons.mpr ⟨lw_p2, List.forall_mem_cons.mpr ⟨lw_p3, List.forall_mem_cons.mpr ⟨lw_p4, List.forall_mem_cons.mpr ⟨lw_p5, List.forall_mem_cons.mpr ⟨lw_p6, List.forall_mem_cons.mpr ⟨lw_p7, List.forall_mem_cons.mpr ⟨lw_p8, List.forall_mem_cons.mpr ⟨lw_p9, List.forall_mem_cons.mpr ⟨lw_p10, List.forall_mem_cons.mpr ⟨lw_p11, List.forall_mem_cons.mpr ⟨lw_p12, List.forall_mem_cons.mpr ⟨lw_p13, List.forall_mem_cons.mpr ⟨lw_p14, List.forall_mem_cons.mpr ⟨lw_p15, List.forall_mem_cons.mpr ⟨lw_p16, List.forall_mem_cons.mpr ⟨lw_p17, List.forall_mem_cons.mpr ⟨lw_p18, List.forall_mem_cons.mpr ⟨lw_p19, List.forall_mem_cons.mpr ⟨lw_p20, List.forall_mem_cons.mpr ⟨lw_p21, List.forall_mem_cons.mpr ⟨lw_p22, List.forall_mem_cons.mpr ⟨lw_p23, List.forall_mem_cons.mpr ⟨lw_p24, List.forall_mem_cons.mpr ⟨lw_p25, List.forall_mem_cons.mpr ⟨lw_p26, List.forall_mem_cons.mpr ⟨lw_p27, List.forall_mem_cons.mpr ⟨lw_p28, List.forall_mem_cons.mpr ⟨lw_p29, List.forall_mem_cons.mpr ⟨lw_p30, List.forall_mem_cons.mpr ⟨lw_p31, List.forall_mem_cons.mpr ⟨lw_p32, List.forall_mem_cons.mpr ⟨lw_p33, List.forall_mem_cons.mpr ⟨lw_p34, List.forall_mem_cons.mpr ⟨lw_p35, List.forall_mem_cons.mpr ⟨lw_p36, List.forall_mem_cons.mpr ⟨lw_p37, List.forall_mem_cons.mpr ⟨lw_p38, List.forall_mem_cons.mpr ⟨lw_p39, List.forall_mem_cons.mpr ⟨lw_p40, List.forall_mem_cons.mpr ⟨lw_p41, List.forall_mem_cons.mpr ⟨lw_p42, List.forall_mem_cons.mpr ⟨lw_p43, List.forall_mem_cons.mpr ⟨lw_p44, List.forall_mem_cons.mpr ⟨lw_p45, List.forall_mem_cons.mpr ⟨lw_p46, List.forall_mem_cons.mpr ⟨lw_p47, List.forall_mem_cons.mpr ⟨lw_p48, List.forall_mem_cons.mpr ⟨lw_p49, List.forall_mem_cons.mpr ⟨lw_p50, List.forall_mem_cons.mpr ⟨lw_p51, List.forall_mem_cons.mpr ⟨lw_p52, List.forall_mem_cons.mpr ⟨lw_p53, List.forall_mem_cons.mpr ⟨lw_p54, List.forall_mem_cons.mpr ⟨lw_p55, List.forall_mem_cons.mpr ⟨lw_p56, List.forall_mem_cons.mpr ⟨lw_p57, List.forall_mem_cons.mpr ⟨lw_p58, List.forall_mem_cons.mpr ⟨lw_p59, List.forall_mem_cons.mpr ⟨lw_p60, List.forall_mem_cons.mpr ⟨lw_p61, List.forall_mem_cons.mpr ⟨lw_p62, List.forall_mem_cons.mpr ⟨lw_p63, List.forall_mem_cons.mpr ⟨lw_p64, List.forall_mem_cons.mpr ⟨lw_p65, List.forall_mem_cons.mpr ⟨lw_p66, List.forall_mem_cons.mpr ⟨lw_p67, List.forall_mem_cons.mpr ⟨lw_p68, List.forall_mem_cons.mpr ⟨lw_p69, List.forall_mem_cons.mpr ⟨lw_p70, List.forall_mem_cons.mpr ⟨lw_p71, List.forall_mem_cons.mpr ⟨lw_p72, List.forall_mem_cons.mpr ⟨lw_p73, List.forall_mem_cons.mpr ⟨lw_p74, List.forall_mem_cons.mpr ⟨lw_p75, List.forall_mem_cons.mpr ⟨lw_p76, List.forall_mem_cons.mpr ⟨lw_p77, List.forall_mem_cons.mpr ⟨lw_p78, List.forall_mem_cons.mpr ⟨lw_p79, List.forall_mem_cons.mpr ⟨lw_p80, List.forall_mem_cons.mpr ⟨lw_p81, List.forall_mem_cons.mpr ⟨lw_p82, List.forall_mem_cons.mpr ⟨lw_p83, List.forall_mem_cons.mpr ⟨lw_p84, List.forall_mem_cons.mpr ⟨lw_p85, List.forall_mem_cons.mpr ⟨lw_p86, List.forall_mem_cons.mpr ⟨lw_p87, List.forall_mem_cons.mpr ⟨lw_p88, List.forall_mem_cons.mpr ⟨lw_p89, List.forall_mem_cons.mpr ⟨lw_p90, List.forall_mem_cons.mpr ⟨lw_p91, List.forall_mem_cons.mpr ⟨lw_p92, fun _ h => absurd h List.not_mem_nil⟩⟩⟩⟩⟩⟩⟩⟩⟩⟩⟩⟩⟩⟩⟩⟩⟩⟩⟩⟩⟩⟩⟩⟩⟩⟩⟩⟩⟩⟩⟩⟩⟩⟩⟩⟩⟩⟩⟩⟩⟩⟩⟩⟩⟩⟩⟩⟩⟩⟩⟩⟩⟩⟩⟩⟩⟩⟩⟩⟩⟩⟩⟩⟩⟩⟩⟩⟩⟩⟩⟩⟩⟩⟩⟩⟩⟩⟩⟩⟩⟩⟩⟩⟩⟩⟩⟩⟩⟩⟩⟩⟩⟩
def lw_tbl : List Cond := k2_sels lw_privs ++ tables_1
/-- the words that a call may hand on -/
def tblG : List Cond := lw_tbl.filter goodWord
theorem gw_t {w : Cond} (h : w ∈ tables_1) (hg : goodWord w = true) : w ∈ tblG := List.mem_filter.mpr ⟨List.mem_append_right _ h, hg⟩
theorem gw_s {q : MethodName × Nat} (i : Nat) (h : lw_privs[i]? = some q) (hg : goodWord (Cond.selects q.1.cls q.1 q.1) = true) : Cond.selects q.1.cls q.1 q.1 ∈ tblG := List.mem_filter.mpr ⟨List.mem_append_left _ (List.mem_map.mpr ⟨q, List.mem_of_getElem? h, rfl⟩), hg⟩
theorem tblG_good : GoodIn tblG tblG := fun w h => ⟨h, good_of_word (List.mem_filter.mp h).2⟩
theorem tblG_sub {w : Cond} (h : w ∈ tblG) : w ∈ lw_tbl := (List.mem_filter.mp h).1
