theorem dX9_contacts_11 : decode cX9_contacts 11 = .ok (.ireturn, 1) := by decide +kernel
set_option maxRecDepth 20000 in
theorem ggX9_contact_X9_requireContactNumber : GoodIn wsX9_contact wsX9_requireContactNumber := goodIn_ca (goodIn_r _ [5, 6, 7] (by decide +kernel) (by decide +kernel)) (goodIn_sub (fun _ h => List.mem_cons_of_mem _ (List.mem_append_left _ (List.mem_append_right _ h))) (by decide +kernel))
set_option maxRecDepth 20000 in
theorem gX9_contact_X9_requireContactNumber : GoodIn wsX9_contact (va_wsS RX9 194 yX9_requireContactNumber wsX9_requireContactNumber) := goodIn_app (goodIn_of _ (by decide +kernel)) ggX9_contact_X9_requireContactNumber
set_option maxRecDepth 20000 in
theorem ggX9_contact_X9_requirePart : GoodIn wsX9_contact wsX9_requirePart := goodIn_ca (goodIn_r _ [10, 11, 12] (by decide +kernel) (by decide +kernel)) (goodIn_sub (fun _ h => List.mem_cons_of_mem _ (List.mem_append_right _ h)) (by decide +kernel))
set_option maxRecDepth 20000 in
theorem gX9_contact_X9_requirePart : GoodIn wsX9_contact (va_wsS RX9 197 yX9_requirePart wsX9_requirePart) := goodIn_app (goodIn_of _ (by decide +kernel)) ggX9_contact_X9_requirePart
set_option maxRecDepth 20000 in
theorem ggX9_contact_X9_findContacts : GoodIn wsX9_contact wsX9_findContacts := goodIn_r _ [16, 17, 18, 1, 19, 20, 21, 22, 23, 24, 25, 26, 27, 28, 29, 30, 31, 32, 33, 34, 35, 36, 37, 38, 39, 40, 41, 42, 4, 43, 44, 45, 46, 47, 48, 49, 50, 51, 52, 53, 54, 55, 56, 57, 58, 59, 60, 61, 62, 63, 64, 65, 66, 67, 68, 69, 70, 71, 72, 73, 74, 75, 76, 77, 78, 79, 80, 81, 82, 83, 84, 85, 86, 87, 88, 97, 98, 99, 100, 101, 102, 103, 104, 105, 106, 107, 108, 109, 110, 111, 112, 113, 114, 115, 116, 117, 118, 119, 120, 121, 122, 123] (by decide +kernel) (by decide +kernel)
set_option maxRecDepth 20000 in
theorem gX9_contact_X9_findContacts : GoodIn wsX9_contact (wsV RX9 190 RX9 yX9_findContacts wsX9_findContacts) := goodIn_app (goodIn_of _ (by decide +kernel)) ggX9_contact_X9_findContacts
set_option maxRecDepth 20000 in
theorem ggX9_contact_X1_partOf : GoodIn wsX9_contact wsX1_partOf := goodIn_r _ [92, 85, 86, 87, 88, 93, 94, 95, 53, 96, 56, 118, 119, 120, 121, 122, 123] (by decide +kernel) (by decide +kernel)
set_option maxRecDepth 20000 in
theorem gX9_contact_X1_partOf : GoodIn wsX9_contact (wsV RX9 200 RX1 yX1_partOf wsX1_partOf) := goodIn_app (goodIn_of _ (by decide +kernel)) ggX9_contact_X1_partOf
theorem dX9_contact_0 : decode cX9_contact 0 = .ok (.iload_n 1, 1) := by decide +kernel
theorem dX9_contact_1 : decode cX9_contact 1 = .ok (.invokestatic 194, 3) := by decide +kernel
theorem dX9_contact_4 : decode cX9_contact 4 = .ok (.iload_n 2, 1) := by decide +kernel
theorem dX9_contact_5 : decode cX9_contact 5 = .ok (.invokestatic 197, 3) := by decide +kernel
theorem dX9_contact_8 : decode cX9_contact 8 = .ok (.aload_n 0, 1) := by decide +kernel
theorem dX9_contact_9 : decode cX9_contact 9 = .ok (.invokevirtual 190, 3) := by decide +kernel
theorem dX9_contact_12 : decode cX9_contact 12 = .ok (.aload_n 0, 1) := by decide +kernel
theorem dX9_contact_13 : decode cX9_contact 13 = .ok (.getfield 36, 3) := by decide +kernel
theorem dX9_contact_16 : decode cX9_contact 16 = .ok (.iload_n 1, 1) := by decide +kernel
theorem dX9_contact_17 : decode cX9_contact 17 = .ok (.iload_n 2, 1) := by decide +kernel
theorem dX9_contact_18 : decode cX9_contact 18 = .ok (.invokevirtual 200, 3) := by decide +kernel
theorem dX9_contact_21 : decode cX9_contact 21 = .ok (.ireturn, 1) := by decide +kernel
set_option maxRecDepth 20000 in
theorem ggX9_isDown_X9_requireTrack : GoodIn wsX9_isDown wsX9_requireTrack := goodIn_ca (goodIn_r _ [5, 6, 7] (by decide +kernel) (by decide +kernel)) (goodIn_sub (fun _ h => List.mem_cons_of_mem _ (List.mem_append_right _ h)) (by decide +kernel))
set_option maxRecDepth 20000 in
theorem gX9_isDown_X9_requireTrack : GoodIn wsX9_isDown (va_wsS RX9 203 yX9_requireTrack wsX9_requireTrack) := goodIn_app (goodIn_of _ (by decide +kernel)) ggX9_isDown_X9_requireTrack
theorem dX9_isDown_0 : decode cX9_isDown 0 = .ok (.iload_n 1, 1) := by decide +kernel
theorem dX9_isDown_1 : decode cX9_isDown 1 = .ok (.invokestatic 203, 3) := by decide +kernel
theorem dX9_isDown_4 : decode cX9_isDown 4 = .ok (.aload_n 0, 1) := by decide +kernel
theorem dX9_isDown_5 : decode cX9_isDown 5 = .ok (.getfield 12, 3) := by decide +kernel
theorem dX9_isDown_8 : decode cX9_isDown 8 = .ok (.getfield 206, 3) := by decide +kernel
theorem dX9_isDown_11 : decode cX9_isDown 11 = .ok (.iload_n 1, 1) := by decide +kernel
theorem dX9_isDown_12 : decode cX9_isDown 12 = .ok (.aaload, 1) := by decide +kernel
theorem dX9_isDown_13 : decode cX9_isDown 13 = .ok (.getfield 210, 3) := by decide +kernel
theorem dX9_isDown_16 : decode cX9_isDown 16 = .ok (.ireturn, 1) := by decide +kernel
set_option maxRecDepth 20000 in
theorem ggX9_track_X9_requireTrack : GoodIn wsX9_track wsX9_requireTrack := goodIn_ca (goodIn_r _ [5, 6, 7] (by decide +kernel) (by decide +kernel)) (goodIn_sub (fun _ h => List.mem_cons_of_mem _ (List.mem_append_left _ (List.mem_append_right _ h))) (by decide +kernel))
set_option maxRecDepth 20000 in
theorem gX9_track_X9_requireTrack : GoodIn wsX9_track (va_wsS RX9 203 yX9_requireTrack wsX9_requireTrack) := goodIn_app (goodIn_of _ (by decide +kernel)) ggX9_track_X9_requireTrack
set_option maxRecDepth 20000 in
theorem ggX9_track_X9_requirePart : GoodIn wsX9_track wsX9_requirePart := goodIn_ca (goodIn_r _ [10, 11, 12] (by decide +kernel) (by decide +kernel)) (goodIn_sub (fun _ h => List.mem_cons_of_mem _ (List.mem_append_right _ h)) (by decide +kernel))
set_option maxRecDepth 20000 in
theorem gX9_track_X9_requirePart : GoodIn wsX9_track (va_wsS RX9 197 yX9_requirePart wsX9_requirePart) := goodIn_app (goodIn_of _ (by decide +kernel)) ggX9_track_X9_requirePart
set_option maxRecDepth 20000 in
theorem ggX9_track_X8_partOf : GoodIn wsX9_track wsX8_partOf := goodIn_r _ [17, 18, 19, 20, 21, 22, 37, 38, 39, 40, 41] (by decide +kernel) (by decide +kernel)
set_option maxRecDepth 20000 in
theorem gX9_track_X8_partOf : GoodIn wsX9_track (wsV RX9 216 RX8 yX8_partOf wsX8_partOf) := goodIn_app (goodIn_of _ (by decide +kernel)) ggX9_track_X8_partOf
theorem dX9_track_0 : decode cX9_track 0 = .ok (.iload_n 1, 1) := by decide +kernel
theorem dX9_track_1 : decode cX9_track 1 = .ok (.invokestatic 203, 3) := by decide +kernel
theorem dX9_track_4 : decode cX9_track 4 = .ok (.iload_n 2, 1) := by decide +kernel
theorem dX9_track_5 : decode cX9_track 5 = .ok (.invokestatic 197, 3) := by decide +kernel
theorem dX9_track_8 : decode cX9_track 8 = .ok (.aload_n 0, 1) := by decide +kernel
theorem dX9_track_9 : decode cX9_track 9 = .ok (.getfield 12, 3) := by decide +kernel
theorem dX9_track_12 : decode cX9_track 12 = .ok (.getfield 206, 3) := by decide +kernel
theorem dX9_track_15 : decode cX9_track 15 = .ok (.iload_n 1, 1) := by decide +kernel
theorem dX9_track_16 : decode cX9_track 16 = .ok (.aaload, 1) := by decide +kernel
theorem dX9_track_17 : decode cX9_track 17 = .ok (.iload_n 2, 1) := by decide +kernel
theorem dX9_track_18 : decode cX9_track 18 = .ok (.invokevirtual 216, 3) := by decide +kernel
theorem dX9_track_21 : decode cX9_track 21 = .ok (.ireturn, 1) := by decide +kernel
set_option maxRecDepth 20000 in
theorem ggX9_squaredDistance_X9_requireTrack : GoodIn wsX9_squaredDistance wsX9_requireTrack := goodIn_ca (goodIn_r _ [6, 7, 8] (by decide +kernel) (by decide +kernel)) (goodIn_sub (fun _ h => List.mem_cons_of_mem _ (List.mem_append_right _ h)) (by decide +kernel))
set_option maxRecDepth 20000 in
theorem gX9_squaredDistance_X9_requireTrack : GoodIn wsX9_squaredDistance (va_wsS RX9 203 yX9_requireTrack wsX9_requireTrack) := goodIn_app (goodIn_of _ (by decide +kernel)) ggX9_squaredDistance_X9_requireTrack
set_option maxRecDepth 20000 in
theorem ggX9_squaredDistance_X9_requireContactNumber : GoodIn wsX9_squaredDistance wsX9_requireContactNumber := goodIn_ca (goodIn_r _ [11, 7, 8] (by decide +kernel) (by decide +kernel)) (goodIn_sub (fun _ h => List.mem_cons_of_mem _ (List.mem_append_right _ h)) (by decide +kernel))
set_option maxRecDepth 20000 in
theorem gX9_squaredDistance_X9_requireContactNumber : GoodIn wsX9_squaredDistance (va_wsS RX9 194 yX9_requireContactNumber wsX9_requireContactNumber) := goodIn_app (goodIn_of _ (by decide +kernel)) ggX9_squaredDistance_X9_requireContactNumber
set_option maxRecDepth 20000 in
theorem ggX9_squaredDistance_X9_findContacts : GoodIn wsX9_squaredDistance wsX9_findContacts := goodIn_r _ [15, 16, 1, 2, 17, 18, 19, 20, 21, 22, 23, 24, 25, 26, 27, 28, 29, 30, 31, 32, 33, 34, 35, 36, 37, 38, 39, 40, 5, 41, 42, 43, 44, 45, 46, 47, 48, 49, 50, 51, 52, 53, 54, 55, 56, 57, 58, 59, 60, 61, 62, 63, 64, 65, 66, 67, 68, 69, 70, 71, 72, 73, 74, 75, 76, 77, 78, 79, 80, 81, 82, 83, 84, 85, 86, 106, 107, 108, 109, 110, 111, 112, 113, 114, 115, 116, 117, 118, 119, 131, 132, 133, 134, 135, 136, 137, 125, 126, 127, 128, 129, 130] (by decide +kernel) (by decide +kernel)
set_option maxRecDepth 20000 in
theorem gX9_squaredDistance_X9_findContacts : GoodIn wsX9_squaredDistance (wsV RX9 190 RX9 yX9_findContacts wsX9_findContacts) := goodIn_app (goodIn_of _ (by decide +kernel)) ggX9_squaredDistance_X9_findContacts
set_option maxRecDepth 20000 in
theorem ggX9_squaredDistance_X1_rowOf : GoodIn wsX9_squaredDistance wsX1_rowOf := goodIn_r _ [90, 83, 91, 92, 93, 51, 94, 54, 125, 126, 127, 128, 129, 130] (by decide +kernel) (by decide +kernel)
set_option maxRecDepth 20000 in
theorem gX9_squaredDistance_X1_rowOf : GoodIn wsX9_squaredDistance (wsV RX9 218 RX1 yX1_rowOf wsX1_rowOf) := goodIn_app (goodIn_of _ (by decide +kernel)) ggX9_squaredDistance_X1_rowOf
set_option maxRecDepth 20000 in
theorem ggX9_squaredDistance_X1_columnOf : GoodIn wsX9_squaredDistance wsX1_columnOf := goodIn_r _ [98, 84, 91, 92, 93, 51, 94, 54, 125, 126, 127, 128, 129, 130] (by decide +kernel) (by decide +kernel)
set_option maxRecDepth 20000 in
theorem gX9_squaredDistance_X1_columnOf : GoodIn wsX9_squaredDistance (wsV RX9 221 RX1 yX1_columnOf wsX1_columnOf) := goodIn_app (goodIn_of _ (by decide +kernel)) ggX9_squaredDistance_X1_columnOf
set_option maxRecDepth 20000 in
theorem ggX9_squaredDistance_X8_squaredWayTo : GoodIn wsX9_squaredDistance wsX8_squaredWayTo := goodIn_r _ [103, 104, 105, 120, 121, 122, 123, 124] (by decide +kernel) (by decide +kernel)
set_option maxRecDepth 20000 in
theorem gX9_squaredDistance_X8_squaredWayTo : GoodIn wsX9_squaredDistance (wsV RX9 224 RX8 yX8_squaredWayTo wsX8_squaredWayTo) := goodIn_app (goodIn_of _ (by decide +kernel)) ggX9_squaredDistance_X8_squaredWayTo
theorem dX9_squaredDistance_0 : decode cX9_squaredDistance 0 = .ok (.iload_n 1, 1) := by decide +kernel
theorem dX9_squaredDistance_1 : decode cX9_squaredDistance 1 = .ok (.invokestatic 203, 3) := by decide +kernel
theorem dX9_squaredDistance_4 : decode cX9_squaredDistance 4 = .ok (.iload_n 2, 1) := by decide +kernel
theorem dX9_squaredDistance_5 : decode cX9_squaredDistance 5 = .ok (.invokestatic 194, 3) := by decide +kernel
theorem dX9_squaredDistance_8 : decode cX9_squaredDistance 8 = .ok (.aload_n 0, 1) := by decide +kernel
theorem dX9_squaredDistance_9 : decode cX9_squaredDistance 9 = .ok (.invokevirtual 190, 3) := by decide +kernel
theorem dX9_squaredDistance_12 : decode cX9_squaredDistance 12 = .ok (.aload_n 0, 1) := by decide +kernel
theorem dX9_squaredDistance_13 : decode cX9_squaredDistance 13 = .ok (.getfield 12, 3) := by decide +kernel
theorem dX9_squaredDistance_16 : decode cX9_squaredDistance 16 = .ok (.getfield 206, 3) := by decide +kernel
theorem dX9_squaredDistance_19 : decode cX9_squaredDistance 19 = .ok (.iload_n 1, 1) := by decide +kernel
theorem dX9_squaredDistance_20 : decode cX9_squaredDistance 20 = .ok (.aaload, 1) := by decide +kernel
theorem dX9_squaredDistance_21 : decode cX9_squaredDistance 21 = .ok (.getfield 210, 3) := by decide +kernel
theorem dX9_squaredDistance_24 : decode cX9_squaredDistance 24 = .ok (.ifCond .eq 14, 3) := by decide +kernel
theorem dX9_squaredDistance_27 : decode cX9_squaredDistance 27 = .ok (.iload_n 2, 1) := by decide +kernel
theorem dX9_squaredDistance_28 : decode cX9_squaredDistance 28 = .ok (.aload_n 0, 1) := by decide +kernel
theorem dX9_squaredDistance_29 : decode cX9_squaredDistance 29 = .ok (.getfield 36, 3) := by decide +kernel
theorem dX9_squaredDistance_32 : decode cX9_squaredDistance 32 = .ok (.getfield 193, 3) := by decide +kernel
theorem dX9_squaredDistance_35 : decode cX9_squaredDistance 35 = .ok (.if_icmp .lt 5, 3) := by decide +kernel
theorem dX9_squaredDistance_38 : decode cX9_squaredDistance 38 = .ok (.iconst (-1), 1) := by decide +kernel
theorem dX9_squaredDistance_39 : decode cX9_squaredDistance 39 = .ok (.ireturn, 1) := by decide +kernel
theorem dX9_squaredDistance_40 : decode cX9_squaredDistance 40 = .ok (.aload_n 0, 1) := by decide +kernel
theorem dX9_squaredDistance_41 : decode cX9_squaredDistance 41 = .ok (.getfield 12, 3) := by decide +kernel
theorem dX9_squaredDistance_44 : decode cX9_squaredDistance 44 = .ok (.getfield 206, 3) := by decide +kernel
theorem dX9_squaredDistance_47 : decode cX9_squaredDistance 47 = .ok (.iload_n 1, 1) := by decide +kernel
theorem dX9_squaredDistance_48 : decode cX9_squaredDistance 48 = .ok (.aaload, 1) := by decide +kernel
theorem dX9_squaredDistance_49 : decode cX9_squaredDistance 49 = .ok (.aload_n 0, 1) := by decide +kernel
theorem dX9_squaredDistance_50 : decode cX9_squaredDistance 50 = .ok (.getfield 36, 3) := by decide +kernel
theorem dX9_squaredDistance_53 : decode cX9_squaredDistance 53 = .ok (.iload_n 2, 1) := by decide +kernel
theorem dX9_squaredDistance_54 : decode cX9_squaredDistance 54 = .ok (.invokevirtual 218, 3) := by decide +kernel
theorem dX9_squaredDistance_57 : decode cX9_squaredDistance 57 = .ok (.aload_n 0, 1) := by decide +kernel
theorem dX9_squaredDistance_58 : decode cX9_squaredDistance 58 = .ok (.getfield 36, 3) := by decide +kernel
theorem dX9_squaredDistance_61 : decode cX9_squaredDistance 61 = .ok (.iload_n 2, 1) := by decide +kernel
theorem dX9_squaredDistance_62 : decode cX9_squaredDistance 62 = .ok (.invokevirtual 221, 3) := by decide +kernel
theorem dX9_squaredDistance_65 : decode cX9_squaredDistance 65 = .ok (.invokevirtual 224, 3) := by decide +kernel
theorem dX9_squaredDistance_68 : decode cX9_squaredDistance 68 = .ok (.ireturn, 1) := by decide +kernel
set_option maxRecDepth 20000 in
theorem ggX9_match_X9_requireTrack : GoodIn wsX9_match wsX9_requireTrack := goodIn_ca (goodIn_r _ [5, 6, 7] (by decide +kernel) (by decide +kernel)) (goodIn_sub (fun _ h => List.mem_cons_of_mem _ (List.mem_append_right _ h)) (by decide +kernel))
set_option maxRecDepth 20000 in
theorem gX9_match_X9_requireTrack : GoodIn wsX9_match (va_wsS RX9 203 yX9_requireTrack wsX9_requireTrack) := goodIn_app (goodIn_of _ (by decide +kernel)) ggX9_match_X9_requireTrack
set_option maxRecDepth 20000 in
theorem ggX9_match_X9_findMatching : GoodIn wsX9_match wsX9_findMatching := goodIn_r _ [11, 1, 12, 13, 14, 15, 16, 4, 17, 18, 19, 20, 21, 22, 23, 24, 25, 26, 27, 28, 29, 30, 31, 32, 33, 34, 35, 36, 37, 38, 39, 40, 41, 42, 43, 44, 45, 46, 47, 48, 49, 50, 51, 52, 53, 54, 55, 56, 57, 58, 59, 60, 61, 62, 63, 64, 65, 66, 67, 68, 69, 70, 71, 72, 73, 74, 75, 76, 77, 78, 79, 80, 81, 82, 83, 84, 85, 86, 87, 88, 89, 90, 91, 92, 93, 94, 95, 96, 97, 98, 99, 100, 101, 102, 103, 104, 105, 106, 107, 108, 109, 110, 111, 112, 113, 114, 115, 116, 117, 118, 119, 120, 121, 122, 123, 124, 125, 126, 127, 128, 129, 130, 131, 132, 133, 134, 135, 136, 137, 138, 139, 140, 141, 146, 147, 148, 149, 150, 151, 152, 153, 154, 155, 156, 157, 158, 159, 160, 161, 162, 163, 164, 165, 166, 167, 168, 169, 170, 171, 172, 173, 174, 175, 176, 177, 178, 179, 180, 181, 182, 183] (by decide +kernel) (by decide +kernel)
set_option maxRecDepth 20000 in
theorem gX9_match_X9_findMatching : GoodIn wsX9_match (wsV RX9 227 RX9 yX9_findMatching wsX9_findMatching) := goodIn_app (goodIn_of _ (by decide +kernel)) ggX9_match_X9_findMatching
set_option maxRecDepth 20000 in
theorem ggX9_match_X3_contactOf : GoodIn wsX9_match wsX3_contactOf := goodIn_r _ [145, 137, 173, 174, 175, 176, 177, 178] (by decide +kernel) (by decide +kernel)
set_option maxRecDepth 20000 in
theorem gX9_match_X3_contactOf : GoodIn wsX9_match (wsV RX9 230 RX3 yX3_contactOf wsX3_contactOf) := goodIn_app (goodIn_of _ (by decide +kernel)) ggX9_match_X3_contactOf
theorem dX9_match_0 : decode cX9_match 0 = .ok (.iload_n 1, 1) := by decide +kernel
theorem dX9_match_1 : decode cX9_match 1 = .ok (.invokestatic 203, 3) := by decide +kernel
theorem dX9_match_4 : decode cX9_match 4 = .ok (.aload_n 0, 1) := by decide +kernel
theorem dX9_match_5 : decode cX9_match 5 = .ok (.invokevirtual 227, 3) := by decide +kernel
theorem dX9_match_8 : decode cX9_match 8 = .ok (.aload_n 0, 1) := by decide +kernel
theorem dX9_match_9 : decode cX9_match 9 = .ok (.getfield 43, 3) := by decide +kernel
theorem dX9_match_12 : decode cX9_match 12 = .ok (.iload_n 1, 1) := by decide +kernel
theorem dX9_match_13 : decode cX9_match 13 = .ok (.invokevirtual 230, 3) := by decide +kernel
theorem dX9_match_16 : decode cX9_match 16 = .ok (.ireturn, 1) := by decide +kernel
set_option maxRecDepth 20000 in
theorem ggX9_matchingCost_X9_findMatching : GoodIn wsX9_matchingCost wsX9_findMatching := goodIn_r _ [6, 1, 7, 8, 9, 10, 11, 5, 12, 13, 14, 15, 16, 17, 18, 19, 20, 21, 22, 23, 24, 25, 26, 27, 28, 29, 30, 31, 32, 33, 34, 35, 36, 37, 38, 39, 40, 41, 42, 43, 44, 45, 46, 47, 48, 49, 50, 51, 52, 53, 54, 55, 56, 57, 58, 59, 60, 61, 62, 63, 64, 65, 66, 67, 68, 69, 70, 71, 72, 73, 74, 75, 76, 77, 78, 79, 80, 81, 82, 83, 84, 85, 86, 87, 88, 89, 90, 91, 92, 93, 94, 95, 96, 97, 98, 99, 100, 101, 102, 103, 104, 105, 106, 107, 108, 109, 110, 111, 112, 113, 114, 115, 116, 117, 118, 119, 120, 121, 122, 123, 124, 125, 126, 127, 128, 129, 130, 131, 132, 133, 134, 135, 136, 141, 142, 143, 144, 145, 146, 147, 148, 149, 150, 151, 152, 153, 154, 155, 156, 157, 158, 159, 160, 161, 162, 163, 164, 165, 166, 167, 168, 169, 170, 171, 172, 173, 174, 175, 176, 177, 178] (by decide +kernel) (by decide +kernel)
set_option maxRecDepth 20000 in
theorem gX9_matchingCost_X9_findMatching : GoodIn wsX9_matchingCost (wsV RX9 227 RX9 yX9_findMatching wsX9_findMatching) := goodIn_app (goodIn_of _ (by decide +kernel)) ggX9_matchingCost_X9_findMatching
set_option maxRecDepth 20000 in
theorem ggX9_matchingCost_X3_wholeCost : GoodIn wsX9_matchingCost wsX3_wholeCost := goodIn_r _ [140, 92, 168, 169, 170, 171, 172, 173] (by decide +kernel) (by decide +kernel)
set_option maxRecDepth 20000 in
theorem gX9_matchingCost_X3_wholeCost : GoodIn wsX9_matchingCost (wsV RX9 233 RX3 yX3_wholeCost wsX3_wholeCost) := goodIn_app (goodIn_of _ (by decide +kernel)) ggX9_matchingCost_X3_wholeCost
theorem dX9_matchingCost_0 : decode cX9_matchingCost 0 = .ok (.aload_n 0, 1) := by decide +kernel
theorem dX9_matchingCost_1 : decode cX9_matchingCost 1 = .ok (.invokevirtual 227, 3) := by decide +kernel
theorem dX9_matchingCost_4 : decode cX9_matchingCost 4 = .ok (.aload_n 0, 1) := by decide +kernel
theorem dX9_matchingCost_5 : decode cX9_matchingCost 5 = .ok (.getfield 43, 3) := by decide +kernel
theorem dX9_matchingCost_8 : decode cX9_matchingCost 8 = .ok (.invokevirtual 233, 3) := by decide +kernel
theorem dX9_matchingCost_11 : decode cX9_matchingCost 11 = .ok (.ireturn, 1) := by decide +kernel
set_option maxRecDepth 20000 in
theorem ggX9_downIfScanned_X6_copyFrom : GoodIn wsX9_downIfScanned wsX6_copyFrom := goodIn_r _ [7, 8, 9, 10, 11, 12, 13, 14, 15, 16, 17, 18, 19, 20, 21, 22, 23, 24, 25, 26, 27, 28, 29, 30, 31, 32, 33, 34, 35, 208, 209, 210, 211, 212, 213, 214, 215, 216, 217, 218, 219, 220] (by decide +kernel) (by decide +kernel)
set_option maxRecDepth 20000 in
theorem gX9_downIfScanned_X6_copyFrom : GoodIn wsX9_downIfScanned (wsV RX9 236 RX6 yX6_copyFrom wsX6_copyFrom) := goodIn_app (goodIn_of _ (by decide +kernel)) ggX9_downIfScanned_X6_copyFrom
set_option maxRecDepth 20000 in
theorem ggX9_downIfScanned_X9_scanFrame : GoodIn wsX9_downIfScanned wsX9_scanFrame := goodIn_r _ [40, 41, 42, 43, 44, 45, 46, 47, 48, 49, 50, 51, 52, 53, 54, 21, 55, 23, 25, 56, 57, 58, 59, 60, 61, 62, 63, 64, 39, 65, 66, 67, 68, 69, 70, 71, 72, 73, 74, 75, 76, 77, 78, 79, 80, 81, 82, 83, 84, 85, 86, 87, 88, 89, 90, 91, 92, 93, 94, 95, 96, 97, 98, 99, 100, 101, 102, 103, 104, 105, 106, 107, 108, 109, 110, 111, 112, 113, 114, 115, 116, 117, 118, 119, 120, 121, 122, 123, 124, 125, 126, 127, 128, 129, 130, 131, 132, 133, 134, 135, 136, 137, 29, 138, 32, 33, 139, 140, 141, 142, 143, 144, 145, 146, 147, 148, 149, 150, 151, 152, 153, 154, 155, 156, 157, 158, 159, 160, 161, 162, 163, 6, 164, 16, 17, 15, 165, 166, 167, 168, 14, 169, 170, 171, 172, 9, 173, 174, 175, 176, 177, 178, 179, 180, 181, 182, 34, 35, 183, 184, 185, 186, 31, 187, 188, 189, 190, 191, 192, 193, 194, 195, 196, 197, 198, 200, 201, 202, 203, 204, 205, 206, 207, 208, 209, 210, 211, 212, 213, 221, 222, 223, 224, 225, 214, 215, 226, 227, 228, 229, 230, 231, 232, 233, 234, 235, 236, 237, 216, 217, 218, 219, 220] (by decide +kernel) (by decide +kernel)
set_option maxRecDepth 20000 in
theorem gX9_downIfScanned_X9_scanFrame : GoodIn wsX9_downIfScanned (wsV RX9 122 RX9 yX9_scanFrame wsX9_scanFrame) := goodIn_app (goodIn_of _ (by decide +kernel)) ggX9_downIfScanned_X9_scanFrame
set_option maxRecDepth 20000 in
theorem ggX9_downIfScanned_X6_downSet : GoodIn wsX9_downIfScanned wsX6_downSet := goodIn_r _ [168, 14, 208, 209, 210, 211, 212, 213, 216, 217, 218, 219, 220] (by decide +kernel) (by decide +kernel)
set_option maxRecDepth 20000 in
theorem gX9_downIfScanned_X6_downSet : GoodIn wsX9_downIfScanned (wsV RX9 239 RX6 yX6_downSet wsX6_downSet) := goodIn_app (goodIn_of _ (by decide +kernel)) ggX9_downIfScanned_X6_downSet
theorem dX9_downIfScanned_0 : decode cX9_downIfScanned 0 = .ok (.aload_n 0, 1) := by decide +kernel
theorem dX9_downIfScanned_1 : decode cX9_downIfScanned 1 = .ok (.getfield 16, 3) := by decide +kernel
theorem dX9_downIfScanned_4 : decode cX9_downIfScanned 4 = .ok (.aload_n 0, 1) := by decide +kernel
theorem dX9_downIfScanned_5 : decode cX9_downIfScanned 5 = .ok (.getfield 12, 3) := by decide +kernel
theorem dX9_downIfScanned_8 : decode cX9_downIfScanned 8 = .ok (.invokevirtual 236, 3) := by decide +kernel
theorem dX9_downIfScanned_11 : decode cX9_downIfScanned 11 = .ok (.aload_n 0, 1) := by decide +kernel
theorem dX9_downIfScanned_12 : decode cX9_downIfScanned 12 = .ok (.aload_n 0, 1) := by decide +kernel
theorem dX9_downIfScanned_13 : decode cX9_downIfScanned 13 = .ok (.getfield 16, 3) := by decide +kernel
theorem dX9_downIfScanned_16 : decode cX9_downIfScanned 16 = .ok (.invokevirtual 122, 3) := by decide +kernel
theorem dX9_downIfScanned_19 : decode cX9_downIfScanned 19 = .ok (.pop, 1) := by decide +kernel
theorem dX9_downIfScanned_20 : decode cX9_downIfScanned 20 = .ok (.aload_n 0, 1) := by decide +kernel
theorem dX9_downIfScanned_21 : decode cX9_downIfScanned 21 = .ok (.getfield 16, 3) := by decide +kernel
theorem dX9_downIfScanned_24 : decode cX9_downIfScanned 24 = .ok (.invokevirtual 239, 3) := by decide +kernel
theorem dX9_downIfScanned_27 : decode cX9_downIfScanned 27 = .ok (.ireturn, 1) := by decide +kernel
theorem dX9_frames_0 : decode cX9_frames 0 = .ok (.aload_n 0, 1) := by decide +kernel
theorem dX9_frames_1 : decode cX9_frames 1 = .ok (.getfield 12, 3) := by decide +kernel
theorem dX9_frames_4 : decode cX9_frames 4 = .ok (.getfield 242, 3) := by decide +kernel
theorem dX9_frames_7 : decode cX9_frames 7 = .ok (.ireturn, 1) := by decide +kernel
theorem dX9_downs_0 : decode cX9_downs 0 = .ok (.aload_n 0, 1) := by decide +kernel
theorem dX9_downs_1 : decode cX9_downs 1 = .ok (.getfield 12, 3) := by decide +kernel
theorem dX9_downs_4 : decode cX9_downs 4 = .ok (.getfield 245, 3) := by decide +kernel
theorem dX9_downs_7 : decode cX9_downs 7 = .ok (.ireturn, 1) := by decide +kernel
theorem dX9_ups_0 : decode cX9_ups 0 = .ok (.aload_n 0, 1) := by decide +kernel
theorem dX9_ups_1 : decode cX9_ups 1 = .ok (.getfield 12, 3) := by decide +kernel
theorem dX9_ups_4 : decode cX9_ups 4 = .ok (.getfield 248, 3) := by decide +kernel
theorem dX9_ups_7 : decode cX9_ups 7 = .ok (.ireturn, 1) := by decide +kernel
set_option maxRecDepth 20000 in
theorem ggX9_meanSignal_X4_signalOf : GoodIn wsX9_meanSignal wsX4_signalOf := goodIn_r _ [6, 7, 8, 23, 24] (by decide +kernel) (by decide +kernel)
set_option maxRecDepth 20000 in
theorem gX9_meanSignal_X4_signalOf : GoodIn wsX9_meanSignal (wsV RX9 173 RX4 yX4_signalOf wsX4_signalOf) := goodIn_app (goodIn_of _ (by decide +kernel)) ggX9_meanSignal_X4_signalOf
theorem dX9_meanSignal_0 : decode cX9_meanSignal 0 = .ok (.iconst 0, 1) := by decide +kernel
theorem dX9_meanSignal_1 : decode cX9_meanSignal 1 = .ok (.istore_n 1, 1) := by decide +kernel
theorem dX9_meanSignal_2 : decode cX9_meanSignal 2 = .ok (.iconst 0, 1) := by decide +kernel
theorem dX9_meanSignal_3 : decode cX9_meanSignal 3 = .ok (.istore_n 2, 1) := by decide +kernel
theorem dX9_meanSignal_4 : decode cX9_meanSignal 4 = .ok (.iconst 0, 1) := by decide +kernel
theorem dX9_meanSignal_5 : decode cX9_meanSignal 5 = .ok (.istore_n 3, 1) := by decide +kernel
theorem dX9_meanSignal_6 : decode cX9_meanSignal 6 = .ok (.iload_n 3, 1) := by decide +kernel
theorem dX9_meanSignal_7 : decode cX9_meanSignal 7 = .ok (.bipush 48, 2) := by decide +kernel
theorem dX9_meanSignal_9 : decode cX9_meanSignal 9 = .ok (.if_icmp .ge 44, 3) := by decide +kernel
theorem dX9_meanSignal_12 : decode cX9_meanSignal 12 = .ok (.aload_n 0, 1) := by decide +kernel
theorem dX9_meanSignal_13 : decode cX9_meanSignal 13 = .ok (.getfield 12, 3) := by decide +kernel
theorem dX9_meanSignal_16 : decode cX9_meanSignal 16 = .ok (.getfield 76, 3) := by decide +kernel
theorem dX9_meanSignal_19 : decode cX9_meanSignal 19 = .ok (.iload_n 3, 1) := by decide +kernel
theorem dX9_meanSignal_20 : decode cX9_meanSignal 20 = .ok (.invokevirtual 173, 3) := by decide +kernel
theorem dX9_meanSignal_23 : decode cX9_meanSignal 23 = .ok (.istore 4, 2) := by decide +kernel
theorem dX9_meanSignal_25 : decode cX9_meanSignal 25 = .ok (.iload 4, 2) := by decide +kernel
theorem dX9_meanSignal_27 : decode cX9_meanSignal 27 = .ok (.aload_n 0, 1) := by decide +kernel
theorem dX9_meanSignal_28 : decode cX9_meanSignal 28 = .ok (.getfield 12, 3) := by decide +kernel
theorem dX9_meanSignal_31 : decode cX9_meanSignal 31 = .ok (.getfield 119, 3) := by decide +kernel
theorem dX9_meanSignal_34 : decode cX9_meanSignal 34 = .ok (.iconst 0, 1) := by decide +kernel
theorem dX9_meanSignal_35 : decode cX9_meanSignal 35 = .ok (.iaload, 1) := by decide +kernel
theorem dX9_meanSignal_36 : decode cX9_meanSignal 36 = .ok (.if_icmp .lt 11, 3) := by decide +kernel
theorem dX9_meanSignal_39 : decode cX9_meanSignal 39 = .ok (.iload_n 1, 1) := by decide +kernel
theorem dX9_meanSignal_40 : decode cX9_meanSignal 40 = .ok (.iload 4, 2) := by decide +kernel
theorem dX9_meanSignal_42 : decode cX9_meanSignal 42 = .ok (.iadd, 1) := by decide +kernel
theorem dX9_meanSignal_43 : decode cX9_meanSignal 43 = .ok (.istore_n 1, 1) := by decide +kernel
theorem dX9_meanSignal_44 : decode cX9_meanSignal 44 = .ok (.iinc 2 1, 3) := by decide +kernel
theorem dX9_meanSignal_47 : decode cX9_meanSignal 47 = .ok (.iinc 3 1, 3) := by decide +kernel
theorem dX9_meanSignal_50 : decode cX9_meanSignal 50 = .ok (.goto (-44), 3) := by decide +kernel
theorem dX9_meanSignal_53 : decode cX9_meanSignal 53 = .ok (.iload_n 2, 1) := by decide +kernel
theorem dX9_meanSignal_54 : decode cX9_meanSignal 54 = .ok (.ifCond .le 11, 3) := by decide +kernel
theorem dX9_meanSignal_57 : decode cX9_meanSignal 57 = .ok (.iload_n 1, 1) := by decide +kernel
theorem dX9_meanSignal_58 : decode cX9_meanSignal 58 = .ok (.i2f, 1) := by decide +kernel
theorem dX9_meanSignal_59 : decode cX9_meanSignal 59 = .ok (.iload_n 2, 1) := by decide +kernel
theorem dX9_meanSignal_60 : decode cX9_meanSignal 60 = .ok (.i2f, 1) := by decide +kernel
theorem dX9_meanSignal_61 : decode cX9_meanSignal 61 = .ok (.fdiv, 1) := by decide +kernel
theorem dX9_meanSignal_62 : decode cX9_meanSignal 62 = .ok (.goto 4, 3) := by decide +kernel
theorem dX9_meanSignal_65 : decode cX9_meanSignal 65 = .ok (.fconst 0, 1) := by decide +kernel
theorem dX9_meanSignal_66 : decode cX9_meanSignal 66 = .ok (.freturn, 1) := by decide +kernel
theorem dX9_savedStates_0 : decode cX9_savedStates 0 = .ok (.aload_n 0, 1) := by decide +kernel
theorem dX9_savedStates_1 : decode cX9_savedStates 1 = .ok (.getfield 22, 3) := by decide +kernel
theorem dX9_savedStates_4 : decode cX9_savedStates 4 = .ok (.getfield 165, 3) := by decide +kernel
theorem dX9_savedStates_7 : decode cX9_savedStates 7 = .ok (.ireturn, 1) := by decide +kernel
set_option maxRecDepth 20000 in
theorem ggX9_requireCell_X9_isOnPanel : GoodIn wsX9_requireCell wsX9_isOnPanel := goodIn_r _ [6] (by decide +kernel) (by decide +kernel)
set_option maxRecDepth 20000 in
theorem gX9_requireCell_X9_isOnPanel : GoodIn wsX9_requireCell (va_wsS RX9 251 yX9_isOnPanel wsX9_isOnPanel) := goodIn_app (goodIn_of _ (by decide +kernel)) ggX9_requireCell_X9_isOnPanel
theorem dX9_requireCell_0 : decode cX9_requireCell 0 = .ok (.iload_n 0, 1) := by decide +kernel
theorem dX9_requireCell_1 : decode cX9_requireCell 1 = .ok (.iload_n 1, 1) := by decide +kernel
theorem dX9_requireCell_2 : decode cX9_requireCell 2 = .ok (.invokestatic 251, 3) := by decide +kernel
theorem dX9_requireCell_5 : decode cX9_requireCell 5 = .ok (.ifCond .ne 14, 3) := by decide +kernel
theorem dX9_requireCell_8 : decode cX9_requireCell 8 = .ok (.new 255, 3) := by decide +kernel
theorem dX9_requireCell_11 : decode cX9_requireCell 11 = .ok (.dup, 1) := by decide +kernel
theorem dX9_requireCell_12 : decode cX9_requireCell 12 = .ok (.ldc_w 257, 3) := by decide +kernel
theorem dX9_requireCell_15 : decode cX9_requireCell 15 = .ok (.invokespecial 259, 3) := by decide +kernel
theorem dX9_requireCell_18 : decode cX9_requireCell 18 = .ok (.athrow, 1) := by decide +kernel
theorem dX9_requireCell_19 : decode cX9_requireCell 19 = .ok (.return_, 1) := by decide +kernel
theorem dX9_requireSetting_0 : decode cX9_requireSetting 0 = .ok (.iload_n 0, 1) := by decide +kernel
theorem dX9_requireSetting_1 : decode cX9_requireSetting 1 = .ok (.ifCond .lt 8, 3) := by decide +kernel
theorem dX9_requireSetting_4 : decode cX9_requireSetting 4 = .ok (.iload_n 0, 1) := by decide +kernel
theorem dX9_requireSetting_5 : decode cX9_requireSetting 5 = .ok (.iconst 5, 1) := by decide +kernel
theorem dX9_requireSetting_6 : decode cX9_requireSetting 6 = .ok (.if_icmp .lt 14, 3) := by decide +kernel
theorem dX9_requireSetting_9 : decode cX9_requireSetting 9 = .ok (.new 255, 3) := by decide +kernel
theorem dX9_requireSetting_12 : decode cX9_requireSetting 12 = .ok (.dup, 1) := by decide +kernel
theorem dX9_requireSetting_13 : decode cX9_requireSetting 13 = .ok (.ldc_w 260, 3) := by decide +kernel
theorem dX9_requireSetting_16 : decode cX9_requireSetting 16 = .ok (.invokespecial 259, 3) := by decide +kernel
theorem dX9_requireSetting_19 : decode cX9_requireSetting 19 = .ok (.athrow, 1) := by decide +kernel
theorem dX9_requireSetting_20 : decode cX9_requireSetting 20 = .ok (.return_, 1) := by decide +kernel
theorem dX9_requireTrack_0 : decode cX9_requireTrack 0 = .ok (.iload_n 0, 1) := by decide +kernel
theorem dX9_requireTrack_1 : decode cX9_requireTrack 1 = .ok (.ifCond .lt 9, 3) := by decide +kernel
theorem dX9_requireTrack_4 : decode cX9_requireTrack 4 = .ok (.iload_n 0, 1) := by decide +kernel
theorem dX9_requireTrack_5 : decode cX9_requireTrack 5 = .ok (.bipush 6, 2) := by decide +kernel
theorem dX9_requireTrack_7 : decode cX9_requireTrack 7 = .ok (.if_icmp .lt 14, 3) := by decide +kernel
theorem dX9_requireTrack_10 : decode cX9_requireTrack 10 = .ok (.new 255, 3) := by decide +kernel
theorem dX9_requireTrack_13 : decode cX9_requireTrack 13 = .ok (.dup, 1) := by decide +kernel
theorem dX9_requireTrack_14 : decode cX9_requireTrack 14 = .ok (.ldc_w 262, 3) := by decide +kernel
theorem dX9_requireTrack_17 : decode cX9_requireTrack 17 = .ok (.invokespecial 259, 3) := by decide +kernel
theorem dX9_requireTrack_20 : decode cX9_requireTrack 20 = .ok (.athrow, 1) := by decide +kernel
theorem dX9_requireTrack_21 : decode cX9_requireTrack 21 = .ok (.return_, 1) := by decide +kernel
theorem dX9_requireContactNumber_0 : decode cX9_requireContactNumber 0 = .ok (.iload_n 0, 1) := by decide +kernel
theorem dX9_requireContactNumber_1 : decode cX9_requireContactNumber 1 = .ok (.ifCond .ge 14, 3) := by decide +kernel
theorem dX9_requireContactNumber_4 : decode cX9_requireContactNumber 4 = .ok (.new 255, 3) := by decide +kernel
theorem dX9_requireContactNumber_7 : decode cX9_requireContactNumber 7 = .ok (.dup, 1) := by decide +kernel
theorem dX9_requireContactNumber_8 : decode cX9_requireContactNumber 8 = .ok (.ldc_w 264, 3) := by decide +kernel
theorem dX9_requireContactNumber_11 : decode cX9_requireContactNumber 11 = .ok (.invokespecial 259, 3) := by decide +kernel
theorem dX9_requireContactNumber_14 : decode cX9_requireContactNumber 14 = .ok (.athrow, 1) := by decide +kernel
theorem dX9_requireContactNumber_15 : decode cX9_requireContactNumber 15 = .ok (.return_, 1) := by decide +kernel
theorem dX9_requirePart_0 : decode cX9_requirePart 0 = .ok (.iload_n 0, 1) := by decide +kernel
theorem dX9_requirePart_1 : decode cX9_requirePart 1 = .ok (.ifCond .lt 8, 3) := by decide +kernel
theorem dX9_requirePart_4 : decode cX9_requirePart 4 = .ok (.iload_n 0, 1) := by decide +kernel
theorem dX9_requirePart_5 : decode cX9_requirePart 5 = .ok (.iconst 4, 1) := by decide +kernel
theorem dX9_requirePart_6 : decode cX9_requirePart 6 = .ok (.if_icmp .lt 14, 3) := by decide +kernel
theorem dX9_requirePart_9 : decode cX9_requirePart 9 = .ok (.new 65, 3) := by decide +kernel
theorem dX9_requirePart_12 : decode cX9_requirePart 12 = .ok (.dup, 1) := by decide +kernel
theorem dX9_requirePart_13 : decode cX9_requirePart 13 = .ok (.ldc_w 266, 3) := by decide +kernel
theorem dX9_requirePart_16 : decode cX9_requirePart 16 = .ok (.invokespecial 69, 3) := by decide +kernel
theorem dX9_requirePart_19 : decode cX9_requirePart 19 = .ok (.athrow, 1) := by decide +kernel
theorem dX9_requirePart_20 : decode cX9_requirePart 20 = .ok (.return_, 1) := by decide +kernel
theorem dX9_isOnPanel_0 : decode cX9_isOnPanel 0 = .ok (.iload_n 0, 1) := by decide +kernel
theorem dX9_isOnPanel_1 : decode cX9_isOnPanel 1 = .ok (.ifCond .lt 23, 3) := by decide +kernel
theorem dX9_isOnPanel_4 : decode cX9_isOnPanel 4 = .ok (.iload_n 0, 1) := by decide +kernel
theorem dX9_isOnPanel_5 : decode cX9_isOnPanel 5 = .ok (.bipush 8, 2) := by decide +kernel
theorem dX9_isOnPanel_7 : decode cX9_isOnPanel 7 = .ok (.if_icmp .ge 17, 3) := by decide +kernel
theorem dX9_isOnPanel_10 : decode cX9_isOnPanel 10 = .ok (.iload_n 1, 1) := by decide +kernel
theorem dX9_isOnPanel_11 : decode cX9_isOnPanel 11 = .ok (.ifCond .lt 13, 3) := by decide +kernel
theorem dX9_isOnPanel_14 : decode cX9_isOnPanel 14 = .ok (.iload_n 1, 1) := by decide +kernel
theorem dX9_isOnPanel_15 : decode cX9_isOnPanel 15 = .ok (.bipush 6, 2) := by decide +kernel
theorem dX9_isOnPanel_17 : decode cX9_isOnPanel 17 = .ok (.if_icmp .ge 7, 3) := by decide +kernel
theorem dX9_isOnPanel_20 : decode cX9_isOnPanel 20 = .ok (.iconst 1, 1) := by decide +kernel
theorem dX9_isOnPanel_21 : decode cX9_isOnPanel 21 = .ok (.goto 4, 3) := by decide +kernel
theorem dX9_isOnPanel_24 : decode cX9_isOnPanel 24 = .ok (.iconst 0, 1) := by decide +kernel
theorem dX9_isOnPanel_25 : decode cX9_isOnPanel 25 = .ok (.ireturn, 1) := by decide +kernel
theorem dX9_isCell_0 : decode cX9_isCell 0 = .ok (.iload_n 0, 1) := by decide +kernel
theorem dX9_isCell_1 : decode cX9_isCell 1 = .ok (.ifCond .lt 13, 3) := by decide +kernel
theorem dX9_isCell_4 : decode cX9_isCell 4 = .ok (.iload_n 0, 1) := by decide +kernel
theorem dX9_isCell_5 : decode cX9_isCell 5 = .ok (.bipush 48, 2) := by decide +kernel
theorem dX9_isCell_7 : decode cX9_isCell 7 = .ok (.if_icmp .ge 7, 3) := by decide +kernel
theorem dX9_isCell_10 : decode cX9_isCell 10 = .ok (.iconst 1, 1) := by decide +kernel
theorem dX9_isCell_11 : decode cX9_isCell 11 = .ok (.goto 4, 3) := by decide +kernel
theorem dX9_isCell_14 : decode cX9_isCell 14 = .ok (.iconst 0, 1) := by decide +kernel
theorem dX9_isCell_15 : decode cX9_isCell 15 = .ok (.ireturn, 1) := by decide +kernel
theorem dX9_cellAt_0 : decode cX9_cellAt 0 = .ok (.bipush 6, 2) := by decide +kernel
theorem dX9_cellAt_2 : decode cX9_cellAt 2 = .ok (.iload_n 0, 1) := by decide +kernel
theorem dX9_cellAt_3 : decode cX9_cellAt 3 = .ok (.imul, 1) := by decide +kernel
theorem dX9_cellAt_4 : decode cX9_cellAt 4 = .ok (.iload_n 1, 1) := by decide +kernel
theorem dX9_cellAt_5 : decode cX9_cellAt 5 = .ok (.iadd, 1) := by decide +kernel
theorem dX9_cellAt_6 : decode cX9_cellAt 6 = .ok (.ireturn, 1) := by decide +kernel
set_option maxRecDepth 20000 in
theorem ggX9_findContacts_X5_find : GoodIn wsX9_findContacts wsX5_find := goodIn_r _ [8, 9, 10, 11, 12, 13, 14, 15, 16, 17, 18, 19, 20, 21, 7, 22, 23, 24, 25, 26, 27, 28, 29, 30, 31, 32, 33, 34, 35, 83, 84, 85, 86, 87, 88, 89, 90, 91, 92, 93, 94, 95] (by decide +kernel) (by decide +kernel)
set_option maxRecDepth 20000 in
theorem gX9_findContacts_X5_find : GoodIn wsX9_findContacts (wsV RX9 176 RX5 yX5_find wsX5_find) := goodIn_app (goodIn_of _ (by decide +kernel)) ggX9_findContacts_X5_find
set_option maxRecDepth 20000 in
theorem ggX9_findContacts_X1_find : GoodIn wsX9_findContacts wsX1_find := goodIn_r _ [40, 41, 42, 43, 44, 45, 7, 46, 11, 34, 9, 35, 10, 27, 28, 29, 47, 48, 39, 49, 50, 13, 14, 15, 16, 17, 18, 51, 52, 53, 54, 55, 56, 57, 58, 59, 60, 61, 62, 63, 64, 65, 66, 67, 68, 69, 70, 71, 72, 73, 74, 96, 97, 98, 99, 100, 101, 89, 90, 91, 92, 93, 94, 95] (by decide +kernel) (by decide +kernel)
set_option maxRecDepth 20000 in
theorem gX9_findContacts_X1_find : GoodIn wsX9_findContacts (wsV RX9 268 RX1 yX1_find wsX1_find) := goodIn_app (goodIn_of _ (by decide +kernel)) ggX9_findContacts_X1_find
theorem dX9_findContacts_0 : decode cX9_findContacts 0 = .ok (.aload_n 0, 1) := by decide +kernel
theorem dX9_findContacts_1 : decode cX9_findContacts 1 = .ok (.getfield 29, 3) := by decide +kernel
theorem dX9_findContacts_4 : decode cX9_findContacts 4 = .ok (.aload_n 0, 1) := by decide +kernel
theorem dX9_findContacts_5 : decode cX9_findContacts 5 = .ok (.getfield 12, 3) := by decide +kernel
theorem dX9_findContacts_8 : decode cX9_findContacts 8 = .ok (.invokevirtual 176, 3) := by decide +kernel
theorem dX9_findContacts_11 : decode cX9_findContacts 11 = .ok (.aload_n 0, 1) := by decide +kernel
theorem dX9_findContacts_12 : decode cX9_findContacts 12 = .ok (.getfield 36, 3) := by decide +kernel
theorem dX9_findContacts_15 : decode cX9_findContacts 15 = .ok (.aload_n 0, 1) := by decide +kernel
theorem dX9_findContacts_16 : decode cX9_findContacts 16 = .ok (.getfield 12, 3) := by decide +kernel
theorem dX9_findContacts_19 : decode cX9_findContacts 19 = .ok (.getfield 76, 3) := by decide +kernel
theorem dX9_findContacts_22 : decode cX9_findContacts 22 = .ok (.aload_n 0, 1) := by decide +kernel
theorem dX9_findContacts_23 : decode cX9_findContacts 23 = .ok (.getfield 29, 3) := by decide +kernel
theorem dX9_findContacts_26 : decode cX9_findContacts 26 = .ok (.invokevirtual 268, 3) := by decide +kernel
theorem dX9_findContacts_29 : decode cX9_findContacts 29 = .ok (.return_, 1) := by decide +kernel
set_option maxRecDepth 20000 in
theorem ggX9_findMatching_X9_findContacts : GoodIn wsX9_findMatching wsX9_findContacts := goodIn_r _ [8, 9, 2, 3, 10, 11, 12, 13, 14, 15, 16, 17, 18, 19, 20, 21, 22, 23, 24, 25, 26, 27, 28, 29, 30, 31, 32, 33, 7, 34, 35, 36, 37, 38, 39, 40, 41, 42, 43, 44, 45, 46, 47, 48, 49, 50, 51, 52, 53, 54, 55, 56, 57, 58, 59, 60, 61, 62, 63, 64, 65, 66, 67, 68, 69, 70, 71, 72, 73, 74, 75, 76, 77, 78, 79, 133, 134, 135, 136, 137, 138, 139, 140, 141, 142, 143, 144, 145, 146, 147, 148, 149, 150, 151, 152, 153, 154, 155, 156, 157, 158, 159] (by decide +kernel) (by decide +kernel)
set_option maxRecDepth 20000 in
theorem gX9_findMatching_X9_findContacts : GoodIn wsX9_findMatching (wsV RX9 190 RX9 yX9_findContacts wsX9_findContacts) := goodIn_app (goodIn_of _ (by decide +kernel)) ggX9_findMatching_X9_findContacts
set_option maxRecDepth 20000 in
theorem ggX9_findMatching_X3_find : GoodIn wsX9_findMatching wsX3_find := goodIn_r _ [84, 85, 86, 87, 88, 89, 90, 83, 91, 92, 93, 94, 44, 95, 76, 96, 97, 98, 99, 47, 100, 101, 102, 103, 77, 104, 105, 106, 107, 108, 109, 110, 111, 112, 113, 114, 115, 116, 117, 118, 119, 120, 121, 122, 123, 124, 125, 126, 127, 128, 129, 130, 131, 132, 154, 155, 156, 157, 158, 159, 160, 161, 162, 163, 164, 165, 141, 142, 143, 144, 145, 146, 166, 167, 168, 169, 170] (by decide +kernel) (by decide +kernel)
set_option maxRecDepth 20000 in
theorem gX9_findMatching_X3_find : GoodIn wsX9_findMatching (wsV RX9 271 RX3 yX3_find wsX3_find) := goodIn_app (goodIn_of _ (by decide +kernel)) ggX9_findMatching_X3_find
theorem dX9_findMatching_0 : decode cX9_findMatching 0 = .ok (.aload_n 0, 1) := by decide +kernel
theorem dX9_findMatching_1 : decode cX9_findMatching 1 = .ok (.invokevirtual 190, 3) := by decide +kernel
theorem dX9_findMatching_4 : decode cX9_findMatching 4 = .ok (.aload_n 0, 1) := by decide +kernel
theorem dX9_findMatching_5 : decode cX9_findMatching 5 = .ok (.getfield 43, 3) := by decide +kernel
theorem dX9_findMatching_8 : decode cX9_findMatching 8 = .ok (.aload_n 0, 1) := by decide +kernel
theorem dX9_findMatching_9 : decode cX9_findMatching 9 = .ok (.getfield 12, 3) := by decide +kernel
theorem dX9_findMatching_12 : decode cX9_findMatching 12 = .ok (.aload_n 0, 1) := by decide +kernel
theorem dX9_findMatching_13 : decode cX9_findMatching 13 = .ok (.getfield 36, 3) := by decide +kernel
theorem dX9_findMatching_16 : decode cX9_findMatching 16 = .ok (.invokevirtual 271, 3) := by decide +kernel
theorem dX9_findMatching_19 : decode cX9_findMatching 19 = .ok (.return_, 1) := by decide +kernel
set_option maxRecDepth 20000 in
theorem ggX9_scanFrame_X5_find : GoodIn wsX9_scanFrame wsX5_find := goodIn_r _ [8, 9, 10, 11, 12, 13, 14, 15, 16, 17, 18, 19, 20, 21, 7, 22, 23, 24, 25, 26, 27, 28, 29, 30, 31, 32, 33, 34, 35, 183, 184, 185, 186, 187, 188, 189, 190, 191, 192, 193, 194, 195] (by decide +kernel) (by decide +kernel)
set_option maxRecDepth 20000 in
theorem gX9_scanFrame_X5_find : GoodIn wsX9_scanFrame (wsV RX9 176 RX5 yX5_find wsX5_find) := goodIn_app (goodIn_of _ (by decide +kernel)) ggX9_scanFrame_X5_find
set_option maxRecDepth 20000 in
theorem ggX9_scanFrame_X1_find : GoodIn wsX9_scanFrame wsX1_find := goodIn_r _ [40, 41, 42, 43, 44, 45, 7, 46, 11, 34, 9, 35, 10, 27, 28, 29, 47, 48, 39, 49, 50, 13, 14, 15, 16, 17, 18, 51, 52, 53, 54, 55, 56, 57, 58, 59, 60, 61, 62, 63, 64, 65, 66, 67, 68, 69, 70, 71, 72, 73, 74, 196, 197, 198, 199, 200, 201, 189, 190, 191, 192, 193, 194, 195] (by decide +kernel) (by decide +kernel)
set_option maxRecDepth 20000 in
theorem gX9_scanFrame_X1_find : GoodIn wsX9_scanFrame (wsV RX9 268 RX1 yX1_find wsX1_find) := goodIn_app (goodIn_of _ (by decide +kernel)) ggX9_scanFrame_X1_find
set_option maxRecDepth 20000 in
theorem ggX9_scanFrame_X3_find : GoodIn wsX9_scanFrame wsX3_find := goodIn_r _ [79, 80, 81, 82, 83, 84, 85, 78, 86, 87, 88, 89, 39, 90, 71, 91, 92, 93, 94, 42, 95, 96, 97, 98, 72, 99, 100, 101, 102, 103, 104, 105, 106, 107, 108, 109, 110, 111, 112, 113, 114, 115, 116, 117, 118, 119, 120, 121, 122, 123, 124, 125, 126, 127, 196, 197, 198, 199, 200, 201, 202, 203, 204, 205, 206, 207, 183, 184, 185, 186, 187, 188, 208, 209, 210, 211, 212] (by decide +kernel) (by decide +kernel)
set_option maxRecDepth 20000 in
theorem gX9_scanFrame_X3_find : GoodIn wsX9_scanFrame (wsV RX9 271 RX3 yX3_find wsX3_find) := goodIn_app (goodIn_of _ (by decide +kernel)) ggX9_scanFrame_X3_find
set_option maxRecDepth 20000 in
theorem ggX9_scanFrame_X6_takeFrame : GoodIn wsX9_scanFrame wsX6_takeFrame := goodIn_r _ [132, 133, 134, 135, 136, 137, 138, 131, 139, 140, 141, 142, 143, 144, 145, 146, 147, 148, 78, 149, 123, 150, 88, 89, 39, 90, 71, 91, 92, 93, 94, 42, 151, 96, 97, 98, 72, 152, 153, 154, 102, 155, 104, 105, 156, 157, 158, 159, 160, 161, 162, 163, 164, 165, 166, 167, 168, 169, 170, 80, 122, 171, 172, 173, 174, 183, 184, 185, 186, 187, 188, 208, 209, 210, 211, 212, 202, 203, 204, 205, 206, 207, 196, 197, 198, 199, 200, 201] (by decide +kernel) (by decide +kernel)
set_option maxRecDepth 20000 in
theorem gX9_scanFrame_X6_takeFrame : GoodIn wsX9_scanFrame (wsV RX9 274 RX6 yX6_takeFrame wsX6_takeFrame) := goodIn_app (goodIn_of _ (by decide +kernel)) ggX9_scanFrame_X6_takeFrame
theorem dX9_scanFrame_0 : decode cX9_scanFrame 0 = .ok (.aload_n 0, 1) := by decide +kernel
theorem dX9_scanFrame_1 : decode cX9_scanFrame 1 = .ok (.getfield 29, 3) := by decide +kernel
theorem dX9_scanFrame_4 : decode cX9_scanFrame 4 = .ok (.aload_n 1, 1) := by decide +kernel
theorem dX9_scanFrame_5 : decode cX9_scanFrame 5 = .ok (.invokevirtual 176, 3) := by decide +kernel
theorem dX9_scanFrame_8 : decode cX9_scanFrame 8 = .ok (.aload_n 0, 1) := by decide +kernel
theorem dX9_scanFrame_9 : decode cX9_scanFrame 9 = .ok (.getfield 36, 3) := by decide +kernel
theorem dX9_scanFrame_12 : decode cX9_scanFrame 12 = .ok (.aload_n 1, 1) := by decide +kernel
theorem dX9_scanFrame_13 : decode cX9_scanFrame 13 = .ok (.getfield 76, 3) := by decide +kernel
theorem dX9_scanFrame_16 : decode cX9_scanFrame 16 = .ok (.aload_n 0, 1) := by decide +kernel
theorem dX9_scanFrame_17 : decode cX9_scanFrame 17 = .ok (.getfield 29, 3) := by decide +kernel
theorem dX9_scanFrame_20 : decode cX9_scanFrame 20 = .ok (.invokevirtual 268, 3) := by decide +kernel
theorem dX9_scanFrame_23 : decode cX9_scanFrame 23 = .ok (.aload_n 0, 1) := by decide +kernel
theorem dX9_scanFrame_24 : decode cX9_scanFrame 24 = .ok (.getfield 43, 3) := by decide +kernel
theorem dX9_scanFrame_27 : decode cX9_scanFrame 27 = .ok (.aload_n 1, 1) := by decide +kernel
theorem dX9_scanFrame_28 : decode cX9_scanFrame 28 = .ok (.aload_n 0, 1) := by decide +kernel
theorem dX9_scanFrame_29 : decode cX9_scanFrame 29 = .ok (.getfield 36, 3) := by decide +kernel
theorem dX9_scanFrame_32 : decode cX9_scanFrame 32 = .ok (.invokevirtual 271, 3) := by decide +kernel
theorem dX9_scanFrame_35 : decode cX9_scanFrame 35 = .ok (.aload_n 1, 1) := by decide +kernel
theorem dX9_scanFrame_36 : decode cX9_scanFrame 36 = .ok (.aload_n 0, 1) := by decide +kernel
theorem dX9_scanFrame_37 : decode cX9_scanFrame 37 = .ok (.getfield 36, 3) := by decide +kernel
theorem dX9_scanFrame_40 : decode cX9_scanFrame 40 = .ok (.aload_n 0, 1) := by decide +kernel
theorem dX9_scanFrame_41 : decode cX9_scanFrame 41 = .ok (.getfield 43, 3) := by decide +kernel
theorem dX9_scanFrame_44 : decode cX9_scanFrame 44 = .ok (.invokevirtual 274, 3) := by decide +kernel
theorem dX9_scanFrame_47 : decode cX9_scanFrame 47 = .ok (.ireturn, 1) := by decide +kernel
abbrev vwCl : List vw_C := [(RX0, TX0, 5), (RX1, TX1, 6), (RX2, TX2, 2), (RX3, TX3, 6), (RX4, TX4, 2), (RX5, TX5, 5), (RX6, TX6, 6), (RX7, TX7, 2), (RX8, TX8, 5), (RX9, TX9, 8)]
