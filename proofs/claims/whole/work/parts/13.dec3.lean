theorem d_La_object_0 : decode b_La_object 0 = .ok (.aload_n 1, 1) := by decide +kernel
theorem d_La_object_1 : decode b_La_object 1 = .ok (.iconst 0, 1) := by decide +kernel
theorem d_La_object_2 : decode b_La_object 2 = .ok (.aload_n 0, 1) := by decide +kernel
theorem d_La_object_3 : decode b_La_object 3 = .ok (.invokevirtual 7, 3) := by decide +kernel
theorem d_La_object_6 : decode b_La_object 6 = .ok (.i2l, 1) := by decide +kernel
theorem d_La_object_7 : decode b_La_object 7 = .ok (.lastore, 1) := by decide +kernel
theorem d_La_object_8 : decode b_La_object 8 = .ok (.goto 6, 3) := by decide +kernel
theorem d_La_object_11 : decode b_La_object 11 = .ok (.astore_n 2, 1) := by decide +kernel
theorem d_La_object_12 : decode b_La_object 12 = .ok (.iconst 1, 1) := by decide +kernel
theorem d_La_object_13 : decode b_La_object 13 = .ok (.ireturn, 1) := by decide +kernel
theorem d_La_object_14 : decode b_La_object 14 = .ok (.iconst 0, 1) := by decide +kernel
theorem d_La_object_15 : decode b_La_object 15 = .ok (.ireturn, 1) := by decide +kernel
theorem d_La_section_0 : decode b_La_section 0 = .ok (.aload 5, 2) := by decide +kernel
theorem d_La_section_2 : decode b_La_section 2 = .ok (.iconst 0, 1) := by decide +kernel
theorem d_La_section_3 : decode b_La_section 3 = .ok (.aload_n 0, 1) := by decide +kernel
theorem d_La_section_4 : decode b_La_section 4 = .ok (.iload_n 1, 1) := by decide +kernel
theorem d_La_section_5 : decode b_La_section 5 = .ok (.iload_n 2, 1) := by decide +kernel
theorem d_La_section_6 : decode b_La_section 6 = .ok (.iload_n 3, 1) := by decide +kernel
theorem d_La_section_7 : decode b_La_section 7 = .ok (.iload 4, 2) := by decide +kernel
theorem d_La_section_9 : decode b_La_section 9 = .ok (.invokevirtual 15, 3) := by decide +kernel
theorem d_La_section_12 : decode b_La_section 12 = .ok (.i2l, 1) := by decide +kernel
theorem d_La_section_13 : decode b_La_section 13 = .ok (.lastore, 1) := by decide +kernel
theorem d_La_section_14 : decode b_La_section 14 = .ok (.goto 15, 3) := by decide +kernel
theorem d_La_section_17 : decode b_La_section 17 = .ok (.astore 6, 2) := by decide +kernel
theorem d_La_section_19 : decode b_La_section 19 = .ok (.iconst 1, 1) := by decide +kernel
theorem d_La_section_20 : decode b_La_section 20 = .ok (.ireturn, 1) := by decide +kernel
theorem d_La_section_21 : decode b_La_section 21 = .ok (.astore 6, 2) := by decide +kernel
theorem d_La_section_23 : decode b_La_section 23 = .ok (.iconst 2, 1) := by decide +kernel
theorem d_La_section_24 : decode b_La_section 24 = .ok (.ireturn, 1) := by decide +kernel
theorem d_La_section_25 : decode b_La_section 25 = .ok (.astore 6, 2) := by decide +kernel
theorem d_La_section_27 : decode b_La_section 27 = .ok (.iconst 3, 1) := by decide +kernel
theorem d_La_section_28 : decode b_La_section 28 = .ok (.ireturn, 1) := by decide +kernel
theorem d_La_section_29 : decode b_La_section 29 = .ok (.iconst 0, 1) := by decide +kernel
theorem d_La_section_30 : decode b_La_section 30 = .ok (.ireturn, 1) := by decide +kernel
theorem d_La_bytes_0 : decode b_La_bytes 0 = .ok (.aload 5, 2) := by decide +kernel
theorem d_La_bytes_2 : decode b_La_bytes 2 = .ok (.iconst 0, 1) := by decide +kernel
theorem d_La_bytes_3 : decode b_La_bytes 3 = .ok (.aload_n 0, 1) := by decide +kernel
theorem d_La_bytes_4 : decode b_La_bytes 4 = .ok (.iload_n 1, 1) := by decide +kernel
theorem d_La_bytes_5 : decode b_La_bytes 5 = .ok (.iload_n 2, 1) := by decide +kernel
theorem d_La_bytes_6 : decode b_La_bytes 6 = .ok (.iload_n 3, 1) := by decide +kernel
theorem d_La_bytes_7 : decode b_La_bytes 7 = .ok (.iload 4, 2) := by decide +kernel
theorem d_La_bytes_9 : decode b_La_bytes 9 = .ok (.invokevirtual 23, 3) := by decide +kernel
theorem d_La_bytes_12 : decode b_La_bytes 12 = .ok (.i2l, 1) := by decide +kernel
theorem d_La_bytes_13 : decode b_La_bytes 13 = .ok (.lastore, 1) := by decide +kernel
theorem d_La_bytes_14 : decode b_La_bytes 14 = .ok (.goto 11, 3) := by decide +kernel
theorem d_La_bytes_17 : decode b_La_bytes 17 = .ok (.astore 6, 2) := by decide +kernel
theorem d_La_bytes_19 : decode b_La_bytes 19 = .ok (.iconst 1, 1) := by decide +kernel
theorem d_La_bytes_20 : decode b_La_bytes 20 = .ok (.ireturn, 1) := by decide +kernel
theorem d_La_bytes_21 : decode b_La_bytes 21 = .ok (.astore 6, 2) := by decide +kernel
theorem d_La_bytes_23 : decode b_La_bytes 23 = .ok (.iconst 2, 1) := by decide +kernel
theorem d_La_bytes_24 : decode b_La_bytes 24 = .ok (.ireturn, 1) := by decide +kernel
theorem d_La_bytes_25 : decode b_La_bytes 25 = .ok (.iconst 0, 1) := by decide +kernel
theorem d_La_bytes_26 : decode b_La_bytes 26 = .ok (.ireturn, 1) := by decide +kernel
theorem d_La_name_0 : decode b_La_name 0 = .ok (.aload 6, 2) := by decide +kernel
theorem d_La_name_2 : decode b_La_name 2 = .ok (.iconst 0, 1) := by decide +kernel
theorem d_La_name_3 : decode b_La_name 3 = .ok (.aload_n 0, 1) := by decide +kernel
theorem d_La_name_4 : decode b_La_name 4 = .ok (.iload_n 1, 1) := by decide +kernel
theorem d_La_name_5 : decode b_La_name 5 = .ok (.iload_n 2, 1) := by decide +kernel
theorem d_La_name_6 : decode b_La_name 6 = .ok (.iload_n 3, 1) := by decide +kernel
theorem d_La_name_7 : decode b_La_name 7 = .ok (.iload 4, 2) := by decide +kernel
theorem d_La_name_9 : decode b_La_name 9 = .ok (.iload 5, 2) := by decide +kernel
theorem d_La_name_11 : decode b_La_name 11 = .ok (.invokevirtual 26, 3) := by decide +kernel
theorem d_La_name_14 : decode b_La_name 14 = .ok (.i2l, 1) := by decide +kernel
theorem d_La_name_15 : decode b_La_name 15 = .ok (.lastore, 1) := by decide +kernel
theorem d_La_name_16 : decode b_La_name 16 = .ok (.goto 15, 3) := by decide +kernel
theorem d_La_name_19 : decode b_La_name 19 = .ok (.astore 7, 2) := by decide +kernel
theorem d_La_name_21 : decode b_La_name 21 = .ok (.iconst 1, 1) := by decide +kernel
theorem d_La_name_22 : decode b_La_name 22 = .ok (.ireturn, 1) := by decide +kernel
theorem d_La_name_23 : decode b_La_name 23 = .ok (.astore 7, 2) := by decide +kernel
theorem d_La_name_25 : decode b_La_name 25 = .ok (.iconst 2, 1) := by decide +kernel
theorem d_La_name_26 : decode b_La_name 26 = .ok (.ireturn, 1) := by decide +kernel
theorem d_La_name_27 : decode b_La_name 27 = .ok (.astore 7, 2) := by decide +kernel
theorem d_La_name_29 : decode b_La_name 29 = .ok (.iconst 3, 1) := by decide +kernel
theorem d_La_name_30 : decode b_La_name 30 = .ok (.ireturn, 1) := by decide +kernel
theorem d_La_name_31 : decode b_La_name 31 = .ok (.iconst 0, 1) := by decide +kernel
theorem d_La_name_32 : decode b_La_name 32 = .ok (.ireturn, 1) := by decide +kernel
theorem d_La_reference_0 : decode b_La_reference 0 = .ok (.aload 7, 2) := by decide +kernel
theorem d_La_reference_2 : decode b_La_reference 2 = .ok (.iconst 0, 1) := by decide +kernel
theorem d_La_reference_3 : decode b_La_reference 3 = .ok (.aload_n 0, 1) := by decide +kernel
theorem d_La_reference_4 : decode b_La_reference 4 = .ok (.iload_n 1, 1) := by decide +kernel
theorem d_La_reference_5 : decode b_La_reference 5 = .ok (.iload_n 2, 1) := by decide +kernel
theorem d_La_reference_6 : decode b_La_reference 6 = .ok (.iload_n 3, 1) := by decide +kernel
theorem d_La_reference_7 : decode b_La_reference 7 = .ok (.iload 4, 2) := by decide +kernel
theorem d_La_reference_9 : decode b_La_reference 9 = .ok (.iload 5, 2) := by decide +kernel
theorem d_La_reference_11 : decode b_La_reference 11 = .ok (.iload 6, 2) := by decide +kernel
theorem d_La_reference_13 : decode b_La_reference 13 = .ok (.invokevirtual 30, 3) := by decide +kernel
theorem d_La_reference_16 : decode b_La_reference 16 = .ok (.i2l, 1) := by decide +kernel
theorem d_La_reference_17 : decode b_La_reference 17 = .ok (.lastore, 1) := by decide +kernel
theorem d_La_reference_18 : decode b_La_reference 18 = .ok (.goto 15, 3) := by decide +kernel
theorem d_La_reference_21 : decode b_La_reference 21 = .ok (.astore 8, 2) := by decide +kernel
theorem d_La_reference_23 : decode b_La_reference 23 = .ok (.iconst 1, 1) := by decide +kernel
theorem d_La_reference_24 : decode b_La_reference 24 = .ok (.ireturn, 1) := by decide +kernel
theorem d_La_reference_25 : decode b_La_reference 25 = .ok (.astore 8, 2) := by decide +kernel
theorem d_La_reference_27 : decode b_La_reference 27 = .ok (.iconst 2, 1) := by decide +kernel
theorem d_La_reference_28 : decode b_La_reference 28 = .ok (.ireturn, 1) := by decide +kernel
theorem d_La_reference_29 : decode b_La_reference 29 = .ok (.astore 8, 2) := by decide +kernel
theorem d_La_reference_31 : decode b_La_reference 31 = .ok (.iconst 3, 1) := by decide +kernel
theorem d_La_reference_32 : decode b_La_reference 32 = .ok (.ireturn, 1) := by decide +kernel
theorem d_La_reference_33 : decode b_La_reference 33 = .ok (.iconst 0, 1) := by decide +kernel
theorem d_La_reference_34 : decode b_La_reference 34 = .ok (.ireturn, 1) := by decide +kernel
theorem d_La_choose_0 : decode b_La_choose 0 = .ok (.aload_n 2, 1) := by decide +kernel
theorem d_La_choose_1 : decode b_La_choose 1 = .ok (.iconst 0, 1) := by decide +kernel
theorem d_La_choose_2 : decode b_La_choose 2 = .ok (.aload_n 0, 1) := by decide +kernel
theorem d_La_choose_3 : decode b_La_choose 3 = .ok (.iload_n 1, 1) := by decide +kernel
theorem d_La_choose_4 : decode b_La_choose 4 = .ok (.invokevirtual 34, 3) := by decide +kernel
theorem d_La_choose_7 : decode b_La_choose 7 = .ok (.i2l, 1) := by decide +kernel
theorem d_La_choose_8 : decode b_La_choose 8 = .ok (.lastore, 1) := by decide +kernel
theorem d_La_choose_9 : decode b_La_choose 9 = .ok (.goto 9, 3) := by decide +kernel
theorem d_La_choose_12 : decode b_La_choose 12 = .ok (.astore_n 3, 1) := by decide +kernel
theorem d_La_choose_13 : decode b_La_choose 13 = .ok (.iconst 1, 1) := by decide +kernel
theorem d_La_choose_14 : decode b_La_choose 14 = .ok (.ireturn, 1) := by decide +kernel
theorem d_La_choose_15 : decode b_La_choose 15 = .ok (.astore_n 3, 1) := by decide +kernel
theorem d_La_choose_16 : decode b_La_choose 16 = .ok (.iconst 2, 1) := by decide +kernel
theorem d_La_choose_17 : decode b_La_choose 17 = .ok (.ireturn, 1) := by decide +kernel
theorem d_La_choose_18 : decode b_La_choose 18 = .ok (.iconst 0, 1) := by decide +kernel
theorem d_La_choose_19 : decode b_La_choose 19 = .ok (.ireturn, 1) := by decide +kernel
theorem d_La_link_0 : decode b_La_link 0 = .ok (.aload_n 3, 1) := by decide +kernel
theorem d_La_link_1 : decode b_La_link 1 = .ok (.iconst 0, 1) := by decide +kernel
theorem d_La_link_2 : decode b_La_link 2 = .ok (.aload_n 0, 1) := by decide +kernel
theorem d_La_link_3 : decode b_La_link 3 = .ok (.iload_n 1, 1) := by decide +kernel
theorem d_La_link_4 : decode b_La_link 4 = .ok (.iload_n 2, 1) := by decide +kernel
theorem d_La_link_5 : decode b_La_link 5 = .ok (.invokevirtual 38, 3) := by decide +kernel
theorem d_La_link_8 : decode b_La_link 8 = .ok (.i2l, 1) := by decide +kernel
theorem d_La_link_9 : decode b_La_link 9 = .ok (.lastore, 1) := by decide +kernel
theorem d_La_link_10 : decode b_La_link 10 = .ok (.goto 15, 3) := by decide +kernel
theorem d_La_link_13 : decode b_La_link 13 = .ok (.astore 4, 2) := by decide +kernel
theorem d_La_link_15 : decode b_La_link 15 = .ok (.iconst 1, 1) := by decide +kernel
theorem d_La_link_16 : decode b_La_link 16 = .ok (.ireturn, 1) := by decide +kernel
theorem d_La_link_17 : decode b_La_link 17 = .ok (.astore 4, 2) := by decide +kernel
theorem d_La_link_19 : decode b_La_link 19 = .ok (.iconst 2, 1) := by decide +kernel
theorem d_La_link_20 : decode b_La_link 20 = .ok (.ireturn, 1) := by decide +kernel
theorem d_La_link_21 : decode b_La_link 21 = .ok (.astore 4, 2) := by decide +kernel
theorem d_La_link_23 : decode b_La_link 23 = .ok (.iconst 3, 1) := by decide +kernel
theorem d_La_link_24 : decode b_La_link 24 = .ok (.ireturn, 1) := by decide +kernel
theorem d_La_link_25 : decode b_La_link 25 = .ok (.iconst 0, 1) := by decide +kernel
theorem d_La_link_26 : decode b_La_link 26 = .ok (.ireturn, 1) := by decide +kernel
theorem d_La_fault_0 : decode b_La_fault 0 = .ok (.aload_n 2, 1) := by decide +kernel
theorem d_La_fault_1 : decode b_La_fault 1 = .ok (.iconst 0, 1) := by decide +kernel
theorem d_La_fault_2 : decode b_La_fault 2 = .ok (.aload_n 0, 1) := by decide +kernel
theorem d_La_fault_3 : decode b_La_fault 3 = .ok (.iload_n 1, 1) := by decide +kernel
theorem d_La_fault_4 : decode b_La_fault 4 = .ok (.invokevirtual 44, 3) := by decide +kernel
theorem d_La_fault_7 : decode b_La_fault 7 = .ok (.i2l, 1) := by decide +kernel
theorem d_La_fault_8 : decode b_La_fault 8 = .ok (.lastore, 1) := by decide +kernel
theorem d_La_fault_9 : decode b_La_fault 9 = .ok (.goto 6, 3) := by decide +kernel
theorem d_La_fault_12 : decode b_La_fault 12 = .ok (.astore_n 3, 1) := by decide +kernel
theorem d_La_fault_13 : decode b_La_fault 13 = .ok (.iconst 1, 1) := by decide +kernel
theorem d_La_fault_14 : decode b_La_fault 14 = .ok (.ireturn, 1) := by decide +kernel
theorem d_La_fault_15 : decode b_La_fault 15 = .ok (.iconst 0, 1) := by decide +kernel
theorem d_La_fault_16 : decode b_La_fault 16 = .ok (.ireturn, 1) := by decide +kernel
theorem d_La_image_0 : decode b_La_image 0 = .ok (.aload_n 2, 1) := by decide +kernel
theorem d_La_image_1 : decode b_La_image 1 = .ok (.iconst 0, 1) := by decide +kernel
theorem d_La_image_2 : decode b_La_image 2 = .ok (.aload_n 0, 1) := by decide +kernel
theorem d_La_image_3 : decode b_La_image 3 = .ok (.iload_n 1, 1) := by decide +kernel
theorem d_La_image_4 : decode b_La_image 4 = .ok (.invokevirtual 47, 3) := by decide +kernel
theorem d_La_image_7 : decode b_La_image 7 = .ok (.i2l, 1) := by decide +kernel
theorem d_La_image_8 : decode b_La_image 8 = .ok (.lastore, 1) := by decide +kernel
theorem d_La_image_9 : decode b_La_image 9 = .ok (.goto 6, 3) := by decide +kernel
theorem d_La_image_12 : decode b_La_image 12 = .ok (.astore_n 3, 1) := by decide +kernel
theorem d_La_image_13 : decode b_La_image 13 = .ok (.iconst 1, 1) := by decide +kernel
theorem d_La_image_14 : decode b_La_image 14 = .ok (.ireturn, 1) := by decide +kernel
theorem d_La_image_15 : decode b_La_image 15 = .ok (.iconst 0, 1) := by decide +kernel
theorem d_La_image_16 : decode b_La_image 16 = .ok (.ireturn, 1) := by decide +kernel
theorem d_La_placeOf_0 : decode b_La_placeOf 0 = .ok (.aload_n 3, 1) := by decide +kernel
theorem d_La_placeOf_1 : decode b_La_placeOf 1 = .ok (.iconst 0, 1) := by decide +kernel
theorem d_La_placeOf_2 : decode b_La_placeOf 2 = .ok (.aload_n 0, 1) := by decide +kernel
theorem d_La_placeOf_3 : decode b_La_placeOf 3 = .ok (.iload_n 1, 1) := by decide +kernel
theorem d_La_placeOf_4 : decode b_La_placeOf 4 = .ok (.iload_n 2, 1) := by decide +kernel
theorem d_La_placeOf_5 : decode b_La_placeOf 5 = .ok (.invokevirtual 50, 3) := by decide +kernel
theorem d_La_placeOf_8 : decode b_La_placeOf 8 = .ok (.i2l, 1) := by decide +kernel
theorem d_La_placeOf_9 : decode b_La_placeOf 9 = .ok (.lastore, 1) := by decide +kernel
theorem d_La_placeOf_10 : decode b_La_placeOf 10 = .ok (.goto 11, 3) := by decide +kernel
theorem d_La_placeOf_13 : decode b_La_placeOf 13 = .ok (.astore 4, 2) := by decide +kernel
theorem d_La_placeOf_15 : decode b_La_placeOf 15 = .ok (.iconst 1, 1) := by decide +kernel
theorem d_La_placeOf_16 : decode b_La_placeOf 16 = .ok (.ireturn, 1) := by decide +kernel
theorem d_La_placeOf_17 : decode b_La_placeOf 17 = .ok (.astore 4, 2) := by decide +kernel
theorem d_La_placeOf_19 : decode b_La_placeOf 19 = .ok (.iconst 2, 1) := by decide +kernel
theorem d_La_placeOf_20 : decode b_La_placeOf 20 = .ok (.ireturn, 1) := by decide +kernel
theorem d_La_placeOf_21 : decode b_La_placeOf 21 = .ok (.iconst 0, 1) := by decide +kernel
theorem d_La_placeOf_22 : decode b_La_placeOf 22 = .ok (.ireturn, 1) := by decide +kernel
theorem d_La_write_0 : decode b_La_write 0 = .ok (.aload_n 2, 1) := by decide +kernel
theorem d_La_write_1 : decode b_La_write 1 = .ok (.iconst 0, 1) := by decide +kernel
theorem d_La_write_2 : decode b_La_write 2 = .ok (.aload_n 0, 1) := by decide +kernel
theorem d_La_write_3 : decode b_La_write 3 = .ok (.iload_n 1, 1) := by decide +kernel
theorem d_La_write_4 : decode b_La_write 4 = .ok (.invokevirtual 53, 3) := by decide +kernel
theorem d_La_write_7 : decode b_La_write 7 = .ok (.i2l, 1) := by decide +kernel
theorem d_La_write_8 : decode b_La_write 8 = .ok (.lastore, 1) := by decide +kernel
theorem d_La_write_9 : decode b_La_write 9 = .ok (.goto 6, 3) := by decide +kernel
theorem d_La_write_12 : decode b_La_write 12 = .ok (.astore_n 3, 1) := by decide +kernel
theorem d_La_write_13 : decode b_La_write 13 = .ok (.iconst 1, 1) := by decide +kernel
theorem d_La_write_14 : decode b_La_write 14 = .ok (.ireturn, 1) := by decide +kernel
theorem d_La_write_15 : decode b_La_write 15 = .ok (.iconst 0, 1) := by decide +kernel
theorem d_La_write_16 : decode b_La_write 16 = .ok (.ireturn, 1) := by decide +kernel
theorem d_La_written_0 : decode b_La_written 0 = .ok (.aload_n 2, 1) := by decide +kernel
theorem d_La_written_1 : decode b_La_written 1 = .ok (.iconst 0, 1) := by decide +kernel
theorem d_La_written_2 : decode b_La_written 2 = .ok (.aload_n 0, 1) := by decide +kernel
theorem d_La_written_3 : decode b_La_written 3 = .ok (.iload_n 1, 1) := by decide +kernel
theorem d_La_written_4 : decode b_La_written 4 = .ok (.invokevirtual 56, 3) := by decide +kernel
theorem d_La_written_7 : decode b_La_written 7 = .ok (.i2l, 1) := by decide +kernel
theorem d_La_written_8 : decode b_La_written 8 = .ok (.lastore, 1) := by decide +kernel
theorem d_La_written_9 : decode b_La_written 9 = .ok (.goto 6, 3) := by decide +kernel
theorem d_La_written_12 : decode b_La_written 12 = .ok (.astore_n 3, 1) := by decide +kernel
theorem d_La_written_13 : decode b_La_written 13 = .ok (.iconst 1, 1) := by decide +kernel
theorem d_La_written_14 : decode b_La_written 14 = .ok (.ireturn, 1) := by decide +kernel
theorem d_La_written_15 : decode b_La_written 15 = .ok (.iconst 0, 1) := by decide +kernel
theorem d_La_written_16 : decode b_La_written 16 = .ok (.ireturn, 1) := by decide +kernel
theorem d_La_alter_0 : decode b_La_alter 0 = .ok (.aload_n 3, 1) := by decide +kernel
theorem d_La_alter_1 : decode b_La_alter 1 = .ok (.iconst 0, 1) := by decide +kernel
theorem d_La_alter_2 : decode b_La_alter 2 = .ok (.aload_n 0, 1) := by decide +kernel
theorem d_La_alter_3 : decode b_La_alter 3 = .ok (.iload_n 1, 1) := by decide +kernel
theorem d_La_alter_4 : decode b_La_alter 4 = .ok (.iload_n 2, 1) := by decide +kernel
theorem d_La_alter_5 : decode b_La_alter 5 = .ok (.invokevirtual 59, 3) := by decide +kernel
theorem d_La_alter_8 : decode b_La_alter 8 = .ok (.i2l, 1) := by decide +kernel
theorem d_La_alter_9 : decode b_La_alter 9 = .ok (.lastore, 1) := by decide +kernel
theorem d_La_alter_10 : decode b_La_alter 10 = .ok (.goto 11, 3) := by decide +kernel
theorem d_La_alter_13 : decode b_La_alter 13 = .ok (.astore 4, 2) := by decide +kernel
theorem d_La_alter_15 : decode b_La_alter 15 = .ok (.iconst 1, 1) := by decide +kernel
theorem d_La_alter_16 : decode b_La_alter 16 = .ok (.ireturn, 1) := by decide +kernel
theorem d_La_alter_17 : decode b_La_alter 17 = .ok (.astore 4, 2) := by decide +kernel
theorem d_La_alter_19 : decode b_La_alter 19 = .ok (.iconst 2, 1) := by decide +kernel
theorem d_La_alter_20 : decode b_La_alter 20 = .ok (.ireturn, 1) := by decide +kernel
theorem d_La_alter_21 : decode b_La_alter 21 = .ok (.iconst 0, 1) := by decide +kernel
theorem d_La_alter_22 : decode b_La_alter 22 = .ok (.ireturn, 1) := by decide +kernel
theorem d_La_read_0 : decode b_La_read 0 = .ok (.aload_n 2, 1) := by decide +kernel
theorem d_La_read_1 : decode b_La_read 1 = .ok (.iconst 0, 1) := by decide +kernel
theorem d_La_read_2 : decode b_La_read 2 = .ok (.aload_n 0, 1) := by decide +kernel
theorem d_La_read_3 : decode b_La_read 3 = .ok (.iload_n 1, 1) := by decide +kernel
theorem d_La_read_4 : decode b_La_read 4 = .ok (.invokevirtual 62, 3) := by decide +kernel
theorem d_La_read_7 : decode b_La_read 7 = .ok (.i2l, 1) := by decide +kernel
theorem d_La_read_8 : decode b_La_read 8 = .ok (.lastore, 1) := by decide +kernel
theorem d_La_read_9 : decode b_La_read 9 = .ok (.goto 9, 3) := by decide +kernel
theorem d_La_read_12 : decode b_La_read 12 = .ok (.astore_n 3, 1) := by decide +kernel
theorem d_La_read_13 : decode b_La_read 13 = .ok (.iconst 1, 1) := by decide +kernel
theorem d_La_read_14 : decode b_La_read 14 = .ok (.ireturn, 1) := by decide +kernel
theorem d_La_read_15 : decode b_La_read 15 = .ok (.astore_n 3, 1) := by decide +kernel
theorem d_La_read_16 : decode b_La_read 16 = .ok (.iconst 2, 1) := by decide +kernel
theorem d_La_read_17 : decode b_La_read 17 = .ok (.ireturn, 1) := by decide +kernel
theorem d_La_read_18 : decode b_La_read 18 = .ok (.iconst 0, 1) := by decide +kernel
theorem d_La_read_19 : decode b_La_read 19 = .ok (.ireturn, 1) := by decide +kernel
theorem d_La_law_0 : decode b_La_law 0 = .ok (.new 8, 3) := by decide +kernel
theorem d_La_law_3 : decode b_La_law 3 = .ok (.dup, 1) := by decide +kernel
theorem d_La_law_4 : decode b_La_law 4 = .ok (.invokespecial 65, 3) := by decide +kernel
theorem d_La_law_7 : decode b_La_law 7 = .ok (.astore_n 1, 1) := by decide +kernel
theorem d_La_law_8 : decode b_La_law 8 = .ok (.new 66, 3) := by decide +kernel
theorem d_La_law_11 : decode b_La_law 11 = .ok (.dup, 1) := by decide +kernel
theorem d_La_law_12 : decode b_La_law 12 = .ok (.invokespecial 68, 3) := by decide +kernel
theorem d_La_law_15 : decode b_La_law 15 = .ok (.astore_n 2, 1) := by decide +kernel
theorem d_La_law_16 : decode b_La_law 16 = .ok (.iconst 1, 1) := by decide +kernel
theorem d_La_law_17 : decode b_La_law 17 = .ok (.newarray .long, 2) := by decide +kernel
theorem d_La_law_19 : decode b_La_law 19 = .ok (.astore_n 3, 1) := by decide +kernel
theorem d_La_law_20 : decode b_La_law 20 = .ok (.iconst 0, 1) := by decide +kernel
theorem d_La_law_21 : decode b_La_law 21 = .ok (.istore 4, 2) := by decide +kernel
theorem d_La_law_23 : decode b_La_law 23 = .ok (.iload 4, 2) := by decide +kernel
theorem d_La_law_25 : decode b_La_law 25 = .ok (.aload_n 0, 1) := by decide +kernel
theorem d_La_law_26 : decode b_La_law 26 = .ok (.arraylength, 1) := by decide +kernel
theorem d_La_law_27 : decode b_La_law 27 = .ok (.bipush 7, 2) := by decide +kernel
theorem d_La_law_29 : decode b_La_law 29 = .ok (.isub, 1) := by decide +kernel
theorem d_La_law_30 : decode b_La_law 30 = .ok (.if_icmp .gt 1136, 3) := by decide +kernel
theorem d_La_law_33 : decode b_La_law 33 = .ok (.aload_n 0, 1) := by decide +kernel
theorem d_La_law_34 : decode b_La_law 34 = .ok (.iload 4, 2) := by decide +kernel
theorem d_La_law_36 : decode b_La_law 36 = .ok (.iaload, 1) := by decide +kernel
theorem d_La_law_37 : decode b_La_law 37 = .ok (.bipush 15, 2) := by decide +kernel
theorem d_La_law_39 : decode b_La_law 39 = .ok (.iand, 1) := by decide +kernel
theorem d_La_law_40 : decode b_La_law 40 = .ok (.tableswitch 1120 0 15 #[80, 124, 216, 308, 412, 530, 586, 654, 710, 766, 834, 859, 915, 971, 1039, 1095], 80) := by decide +kernel
theorem d_La_law_120 : decode b_La_law 120 = .ok (.aload_n 1, 1) := by decide +kernel
theorem d_La_law_121 : decode b_La_law 121 = .ok (.aload_n 3, 1) := by decide +kernel
theorem d_La_law_122 : decode b_La_law 122 = .ok (.invokestatic 69, 3) := by decide +kernel
theorem d_La_law_125 : decode b_La_law 125 = .ok (.istore 5, 2) := by decide +kernel
theorem d_La_law_127 : decode b_La_law 127 = .ok (.aload_n 2, 1) := by decide +kernel
theorem d_La_law_128 : decode b_La_law 128 = .ok (.invokevirtual 74, 3) := by decide +kernel
theorem d_La_law_131 : decode b_La_law 131 = .ok (.istore 6, 2) := by decide +kernel
theorem d_La_law_133 : decode b_La_law 133 = .ok (.aload_n 2, 1) := by decide +kernel
theorem d_La_law_134 : decode b_La_law 134 = .ok (.invokevirtual 75, 3) := by decide +kernel
theorem d_La_law_137 : decode b_La_law 137 = .ok (.iload 5, 2) := by decide +kernel
theorem d_La_law_139 : decode b_La_law 139 = .ok (.if_icmp .eq 5, 3) := by decide +kernel
theorem d_La_law_142 : decode b_La_law 142 = .ok (.iconst 0, 1) := by decide +kernel
theorem d_La_law_143 : decode b_La_law 143 = .ok (.ireturn, 1) := by decide +kernel
theorem d_La_law_144 : decode b_La_law 144 = .ok (.iload 5, 2) := by decide +kernel
theorem d_La_law_146 : decode b_La_law 146 = .ok (.ifCond .ne 15, 3) := by decide +kernel
theorem d_La_law_149 : decode b_La_law 149 = .ok (.aload_n 3, 1) := by decide +kernel
theorem d_La_law_150 : decode b_La_law 150 = .ok (.iconst 0, 1) := by decide +kernel
theorem d_La_law_151 : decode b_La_law 151 = .ok (.laload, 1) := by decide +kernel
theorem d_La_law_152 : decode b_La_law 152 = .ok (.iload 6, 2) := by decide +kernel
theorem d_La_law_154 : decode b_La_law 154 = .ok (.i2l, 1) := by decide +kernel
theorem d_La_law_155 : decode b_La_law 155 = .ok (.lcmp, 1) := by decide +kernel
theorem d_La_law_156 : decode b_La_law 156 = .ok (.ifCond .eq 5, 3) := by decide +kernel
theorem d_La_law_159 : decode b_La_law 159 = .ok (.iconst 0, 1) := by decide +kernel
theorem d_La_law_160 : decode b_La_law 160 = .ok (.ireturn, 1) := by decide +kernel
theorem d_La_law_161 : decode b_La_law 161 = .ok (.goto 999, 3) := by decide +kernel
theorem d_La_law_164 : decode b_La_law 164 = .ok (.aload_n 1, 1) := by decide +kernel
theorem d_La_law_165 : decode b_La_law 165 = .ok (.aload_n 0, 1) := by decide +kernel
theorem d_La_law_166 : decode b_La_law 166 = .ok (.iload 4, 2) := by decide +kernel
theorem d_La_law_168 : decode b_La_law 168 = .ok (.iconst 1, 1) := by decide +kernel
theorem d_La_law_169 : decode b_La_law 169 = .ok (.iadd, 1) := by decide +kernel
theorem d_La_law_170 : decode b_La_law 170 = .ok (.iaload, 1) := by decide +kernel
theorem d_La_law_171 : decode b_La_law 171 = .ok (.aload_n 0, 1) := by decide +kernel
theorem d_La_law_172 : decode b_La_law 172 = .ok (.iload 4, 2) := by decide +kernel
theorem d_La_law_174 : decode b_La_law 174 = .ok (.iconst 2, 1) := by decide +kernel
theorem d_La_law_175 : decode b_La_law 175 = .ok (.iadd, 1) := by decide +kernel
theorem d_La_law_176 : decode b_La_law 176 = .ok (.iaload, 1) := by decide +kernel
theorem d_La_law_177 : decode b_La_law 177 = .ok (.aload_n 0, 1) := by decide +kernel
theorem d_La_law_178 : decode b_La_law 178 = .ok (.iload 4, 2) := by decide +kernel
theorem d_La_law_180 : decode b_La_law 180 = .ok (.iconst 3, 1) := by decide +kernel
theorem d_La_law_181 : decode b_La_law 181 = .ok (.iadd, 1) := by decide +kernel
theorem d_La_law_182 : decode b_La_law 182 = .ok (.iaload, 1) := by decide +kernel
theorem d_La_law_183 : decode b_La_law 183 = .ok (.aload_n 0, 1) := by decide +kernel
theorem d_La_law_184 : decode b_La_law 184 = .ok (.iload 4, 2) := by decide +kernel
theorem d_La_law_186 : decode b_La_law 186 = .ok (.iconst 4, 1) := by decide +kernel
theorem d_La_law_187 : decode b_La_law 187 = .ok (.iadd, 1) := by decide +kernel
theorem d_La_law_188 : decode b_La_law 188 = .ok (.iaload, 1) := by decide +kernel
theorem d_La_law_189 : decode b_La_law 189 = .ok (.aload_n 3, 1) := by decide +kernel
theorem d_La_law_190 : decode b_La_law 190 = .ok (.invokestatic 78, 3) := by decide +kernel
theorem d_La_law_193 : decode b_La_law 193 = .ok (.istore 5, 2) := by decide +kernel
theorem d_La_law_195 : decode b_La_law 195 = .ok (.aload_n 2, 1) := by decide +kernel
theorem d_La_law_196 : decode b_La_law 196 = .ok (.aload_n 0, 1) := by decide +kernel
theorem d_La_law_197 : decode b_La_law 197 = .ok (.iload 4, 2) := by decide +kernel
theorem d_La_law_199 : decode b_La_law 199 = .ok (.iconst 1, 1) := by decide +kernel
theorem d_La_law_200 : decode b_La_law 200 = .ok (.iadd, 1) := by decide +kernel
theorem d_La_law_201 : decode b_La_law 201 = .ok (.iaload, 1) := by decide +kernel
theorem d_La_law_202 : decode b_La_law 202 = .ok (.aload_n 0, 1) := by decide +kernel
theorem d_La_law_203 : decode b_La_law 203 = .ok (.iload 4, 2) := by decide +kernel
theorem d_La_law_205 : decode b_La_law 205 = .ok (.iconst 2, 1) := by decide +kernel
theorem d_La_law_206 : decode b_La_law 206 = .ok (.iadd, 1) := by decide +kernel
theorem d_La_law_207 : decode b_La_law 207 = .ok (.iaload, 1) := by decide +kernel
theorem d_La_law_208 : decode b_La_law 208 = .ok (.aload_n 0, 1) := by decide +kernel
theorem d_La_law_209 : decode b_La_law 209 = .ok (.iload 4, 2) := by decide +kernel
theorem d_La_law_211 : decode b_La_law 211 = .ok (.iconst 3, 1) := by decide +kernel
theorem d_La_law_212 : decode b_La_law 212 = .ok (.iadd, 1) := by decide +kernel
theorem d_La_law_213 : decode b_La_law 213 = .ok (.iaload, 1) := by decide +kernel
theorem d_La_law_214 : decode b_La_law 214 = .ok (.aload_n 0, 1) := by decide +kernel
theorem d_La_law_215 : decode b_La_law 215 = .ok (.iload 4, 2) := by decide +kernel
theorem d_La_law_217 : decode b_La_law 217 = .ok (.iconst 4, 1) := by decide +kernel
theorem d_La_law_218 : decode b_La_law 218 = .ok (.iadd, 1) := by decide +kernel
theorem d_La_law_219 : decode b_La_law 219 = .ok (.iaload, 1) := by decide +kernel
theorem d_La_law_220 : decode b_La_law 220 = .ok (.invokevirtual 81, 3) := by decide +kernel
theorem d_La_law_223 : decode b_La_law 223 = .ok (.istore 6, 2) := by decide +kernel
theorem d_La_law_225 : decode b_La_law 225 = .ok (.aload_n 2, 1) := by decide +kernel
theorem d_La_law_226 : decode b_La_law 226 = .ok (.invokevirtual 75, 3) := by decide +kernel
theorem d_La_law_229 : decode b_La_law 229 = .ok (.iload 5, 2) := by decide +kernel
theorem d_La_law_231 : decode b_La_law 231 = .ok (.if_icmp .eq 5, 3) := by decide +kernel
theorem d_La_law_234 : decode b_La_law 234 = .ok (.iconst 0, 1) := by decide +kernel
theorem d_La_law_235 : decode b_La_law 235 = .ok (.ireturn, 1) := by decide +kernel
theorem d_La_law_236 : decode b_La_law 236 = .ok (.iload 5, 2) := by decide +kernel
theorem d_La_law_238 : decode b_La_law 238 = .ok (.ifCond .ne 15, 3) := by decide +kernel
theorem d_La_law_241 : decode b_La_law 241 = .ok (.aload_n 3, 1) := by decide +kernel
theorem d_La_law_242 : decode b_La_law 242 = .ok (.iconst 0, 1) := by decide +kernel
theorem d_La_law_243 : decode b_La_law 243 = .ok (.laload, 1) := by decide +kernel
theorem d_La_law_244 : decode b_La_law 244 = .ok (.iload 6, 2) := by decide +kernel
theorem d_La_law_246 : decode b_La_law 246 = .ok (.i2l, 1) := by decide +kernel
theorem d_La_law_247 : decode b_La_law 247 = .ok (.lcmp, 1) := by decide +kernel
theorem d_La_law_248 : decode b_La_law 248 = .ok (.ifCond .eq 5, 3) := by decide +kernel
theorem d_La_law_251 : decode b_La_law 251 = .ok (.iconst 0, 1) := by decide +kernel
theorem d_La_law_252 : decode b_La_law 252 = .ok (.ireturn, 1) := by decide +kernel
theorem d_La_law_253 : decode b_La_law 253 = .ok (.goto 907, 3) := by decide +kernel
theorem d_La_law_256 : decode b_La_law 256 = .ok (.aload_n 1, 1) := by decide +kernel
theorem d_La_law_257 : decode b_La_law 257 = .ok (.aload_n 0, 1) := by decide +kernel
theorem d_La_law_258 : decode b_La_law 258 = .ok (.iload 4, 2) := by decide +kernel
theorem d_La_law_260 : decode b_La_law 260 = .ok (.iconst 1, 1) := by decide +kernel
theorem d_La_law_261 : decode b_La_law 261 = .ok (.iadd, 1) := by decide +kernel
theorem d_La_law_262 : decode b_La_law 262 = .ok (.iaload, 1) := by decide +kernel
theorem d_La_law_263 : decode b_La_law 263 = .ok (.aload_n 0, 1) := by decide +kernel
theorem d_La_law_264 : decode b_La_law 264 = .ok (.iload 4, 2) := by decide +kernel
theorem d_La_law_266 : decode b_La_law 266 = .ok (.iconst 2, 1) := by decide +kernel
theorem d_La_law_267 : decode b_La_law 267 = .ok (.iadd, 1) := by decide +kernel
theorem d_La_law_268 : decode b_La_law 268 = .ok (.iaload, 1) := by decide +kernel
theorem d_La_law_269 : decode b_La_law 269 = .ok (.aload_n 0, 1) := by decide +kernel
theorem d_La_law_270 : decode b_La_law 270 = .ok (.iload 4, 2) := by decide +kernel
theorem d_La_law_272 : decode b_La_law 272 = .ok (.iconst 3, 1) := by decide +kernel
theorem d_La_law_273 : decode b_La_law 273 = .ok (.iadd, 1) := by decide +kernel
theorem d_La_law_274 : decode b_La_law 274 = .ok (.iaload, 1) := by decide +kernel
theorem d_La_law_275 : decode b_La_law 275 = .ok (.aload_n 0, 1) := by decide +kernel
theorem d_La_law_276 : decode b_La_law 276 = .ok (.iload 4, 2) := by decide +kernel
theorem d_La_law_278 : decode b_La_law 278 = .ok (.iconst 4, 1) := by decide +kernel
theorem d_La_law_279 : decode b_La_law 279 = .ok (.iadd, 1) := by decide +kernel
theorem d_La_law_280 : decode b_La_law 280 = .ok (.iaload, 1) := by decide +kernel
theorem d_La_law_281 : decode b_La_law 281 = .ok (.aload_n 3, 1) := by decide +kernel
theorem d_La_law_282 : decode b_La_law 282 = .ok (.invokestatic 82, 3) := by decide +kernel
theorem d_La_law_285 : decode b_La_law 285 = .ok (.istore 5, 2) := by decide +kernel
theorem d_La_law_287 : decode b_La_law 287 = .ok (.aload_n 2, 1) := by decide +kernel
theorem d_La_law_288 : decode b_La_law 288 = .ok (.aload_n 0, 1) := by decide +kernel
theorem d_La_law_289 : decode b_La_law 289 = .ok (.iload 4, 2) := by decide +kernel
theorem d_La_law_291 : decode b_La_law 291 = .ok (.iconst 1, 1) := by decide +kernel
theorem d_La_law_292 : decode b_La_law 292 = .ok (.iadd, 1) := by decide +kernel
theorem d_La_law_293 : decode b_La_law 293 = .ok (.iaload, 1) := by decide +kernel
theorem d_La_law_294 : decode b_La_law 294 = .ok (.aload_n 0, 1) := by decide +kernel
theorem d_La_law_295 : decode b_La_law 295 = .ok (.iload 4, 2) := by decide +kernel
theorem d_La_law_297 : decode b_La_law 297 = .ok (.iconst 2, 1) := by decide +kernel
theorem d_La_law_298 : decode b_La_law 298 = .ok (.iadd, 1) := by decide +kernel
theorem d_La_law_299 : decode b_La_law 299 = .ok (.iaload, 1) := by decide +kernel
theorem d_La_law_300 : decode b_La_law 300 = .ok (.aload_n 0, 1) := by decide +kernel
theorem d_La_law_301 : decode b_La_law 301 = .ok (.iload 4, 2) := by decide +kernel
theorem d_La_law_303 : decode b_La_law 303 = .ok (.iconst 3, 1) := by decide +kernel
theorem d_La_law_304 : decode b_La_law 304 = .ok (.iadd, 1) := by decide +kernel
theorem d_La_law_305 : decode b_La_law 305 = .ok (.iaload, 1) := by decide +kernel
theorem d_La_law_306 : decode b_La_law 306 = .ok (.aload_n 0, 1) := by decide +kernel
theorem d_La_law_307 : decode b_La_law 307 = .ok (.iload 4, 2) := by decide +kernel
theorem d_La_law_309 : decode b_La_law 309 = .ok (.iconst 4, 1) := by decide +kernel
theorem d_La_law_310 : decode b_La_law 310 = .ok (.iadd, 1) := by decide +kernel
theorem d_La_law_311 : decode b_La_law 311 = .ok (.iaload, 1) := by decide +kernel
theorem d_La_law_312 : decode b_La_law 312 = .ok (.invokevirtual 84, 3) := by decide +kernel
theorem d_La_law_315 : decode b_La_law 315 = .ok (.istore 6, 2) := by decide +kernel
theorem d_La_law_317 : decode b_La_law 317 = .ok (.aload_n 2, 1) := by decide +kernel
theorem d_La_law_318 : decode b_La_law 318 = .ok (.invokevirtual 75, 3) := by decide +kernel
theorem d_La_law_321 : decode b_La_law 321 = .ok (.iload 5, 2) := by decide +kernel
theorem d_La_law_323 : decode b_La_law 323 = .ok (.if_icmp .eq 5, 3) := by decide +kernel
theorem d_La_law_326 : decode b_La_law 326 = .ok (.iconst 0, 1) := by decide +kernel
theorem d_La_law_327 : decode b_La_law 327 = .ok (.ireturn, 1) := by decide +kernel
theorem d_La_law_328 : decode b_La_law 328 = .ok (.iload 5, 2) := by decide +kernel
theorem d_La_law_330 : decode b_La_law 330 = .ok (.ifCond .ne 15, 3) := by decide +kernel
theorem d_La_law_333 : decode b_La_law 333 = .ok (.aload_n 3, 1) := by decide +kernel
theorem d_La_law_334 : decode b_La_law 334 = .ok (.iconst 0, 1) := by decide +kernel
theorem d_La_law_335 : decode b_La_law 335 = .ok (.laload, 1) := by decide +kernel
theorem d_La_law_336 : decode b_La_law 336 = .ok (.iload 6, 2) := by decide +kernel
theorem d_La_law_338 : decode b_La_law 338 = .ok (.i2l, 1) := by decide +kernel
theorem d_La_law_339 : decode b_La_law 339 = .ok (.lcmp, 1) := by decide +kernel
theorem d_La_law_340 : decode b_La_law 340 = .ok (.ifCond .eq 5, 3) := by decide +kernel
theorem d_La_law_343 : decode b_La_law 343 = .ok (.iconst 0, 1) := by decide +kernel
theorem d_La_law_344 : decode b_La_law 344 = .ok (.ireturn, 1) := by decide +kernel
theorem d_La_law_345 : decode b_La_law 345 = .ok (.goto 815, 3) := by decide +kernel
theorem d_La_law_348 : decode b_La_law 348 = .ok (.aload_n 1, 1) := by decide +kernel
theorem d_La_law_349 : decode b_La_law 349 = .ok (.aload_n 0, 1) := by decide +kernel
theorem d_La_law_350 : decode b_La_law 350 = .ok (.iload 4, 2) := by decide +kernel
theorem d_La_law_352 : decode b_La_law 352 = .ok (.iconst 1, 1) := by decide +kernel
theorem d_La_law_353 : decode b_La_law 353 = .ok (.iadd, 1) := by decide +kernel
theorem d_La_law_354 : decode b_La_law 354 = .ok (.iaload, 1) := by decide +kernel
theorem d_La_law_355 : decode b_La_law 355 = .ok (.aload_n 0, 1) := by decide +kernel
theorem d_La_law_356 : decode b_La_law 356 = .ok (.iload 4, 2) := by decide +kernel
theorem d_La_law_358 : decode b_La_law 358 = .ok (.iconst 2, 1) := by decide +kernel
theorem d_La_law_359 : decode b_La_law 359 = .ok (.iadd, 1) := by decide +kernel
theorem d_La_law_360 : decode b_La_law 360 = .ok (.iaload, 1) := by decide +kernel
theorem d_La_law_361 : decode b_La_law 361 = .ok (.aload_n 0, 1) := by decide +kernel
theorem d_La_law_362 : decode b_La_law 362 = .ok (.iload 4, 2) := by decide +kernel
theorem d_La_law_364 : decode b_La_law 364 = .ok (.iconst 3, 1) := by decide +kernel
theorem d_La_law_365 : decode b_La_law 365 = .ok (.iadd, 1) := by decide +kernel
theorem d_La_law_366 : decode b_La_law 366 = .ok (.iaload, 1) := by decide +kernel
theorem d_La_law_367 : decode b_La_law 367 = .ok (.aload_n 0, 1) := by decide +kernel
theorem d_La_law_368 : decode b_La_law 368 = .ok (.iload 4, 2) := by decide +kernel
theorem d_La_law_370 : decode b_La_law 370 = .ok (.iconst 4, 1) := by decide +kernel
theorem d_La_law_371 : decode b_La_law 371 = .ok (.iadd, 1) := by decide +kernel
theorem d_La_law_372 : decode b_La_law 372 = .ok (.iaload, 1) := by decide +kernel
theorem d_La_law_373 : decode b_La_law 373 = .ok (.aload_n 0, 1) := by decide +kernel
theorem d_La_law_374 : decode b_La_law 374 = .ok (.iload 4, 2) := by decide +kernel
theorem d_La_law_376 : decode b_La_law 376 = .ok (.iconst 5, 1) := by decide +kernel
theorem d_La_law_377 : decode b_La_law 377 = .ok (.iadd, 1) := by decide +kernel
theorem d_La_law_378 : decode b_La_law 378 = .ok (.iaload, 1) := by decide +kernel
theorem d_La_law_379 : decode b_La_law 379 = .ok (.aload_n 3, 1) := by decide +kernel
theorem d_La_law_380 : decode b_La_law 380 = .ok (.invokestatic 85, 3) := by decide +kernel
theorem d_La_law_383 : decode b_La_law 383 = .ok (.istore 5, 2) := by decide +kernel
theorem d_La_law_385 : decode b_La_law 385 = .ok (.aload_n 2, 1) := by decide +kernel
theorem d_La_law_386 : decode b_La_law 386 = .ok (.aload_n 0, 1) := by decide +kernel
theorem d_La_law_387 : decode b_La_law 387 = .ok (.iload 4, 2) := by decide +kernel
theorem d_La_law_389 : decode b_La_law 389 = .ok (.iconst 1, 1) := by decide +kernel
theorem d_La_law_390 : decode b_La_law 390 = .ok (.iadd, 1) := by decide +kernel
theorem d_La_law_391 : decode b_La_law 391 = .ok (.iaload, 1) := by decide +kernel
theorem d_La_law_392 : decode b_La_law 392 = .ok (.aload_n 0, 1) := by decide +kernel
theorem d_La_law_393 : decode b_La_law 393 = .ok (.iload 4, 2) := by decide +kernel
theorem d_La_law_395 : decode b_La_law 395 = .ok (.iconst 2, 1) := by decide +kernel
theorem d_La_law_396 : decode b_La_law 396 = .ok (.iadd, 1) := by decide +kernel
theorem d_La_law_397 : decode b_La_law 397 = .ok (.iaload, 1) := by decide +kernel
theorem d_La_law_398 : decode b_La_law 398 = .ok (.aload_n 0, 1) := by decide +kernel
theorem d_La_law_399 : decode b_La_law 399 = .ok (.iload 4, 2) := by decide +kernel
theorem d_La_law_401 : decode b_La_law 401 = .ok (.iconst 3, 1) := by decide +kernel
theorem d_La_law_402 : decode b_La_law 402 = .ok (.iadd, 1) := by decide +kernel
theorem d_La_law_403 : decode b_La_law 403 = .ok (.iaload, 1) := by decide +kernel
theorem d_La_law_404 : decode b_La_law 404 = .ok (.aload_n 0, 1) := by decide +kernel
theorem d_La_law_405 : decode b_La_law 405 = .ok (.iload 4, 2) := by decide +kernel
theorem d_La_law_407 : decode b_La_law 407 = .ok (.iconst 4, 1) := by decide +kernel
theorem d_La_law_408 : decode b_La_law 408 = .ok (.iadd, 1) := by decide +kernel
theorem d_La_law_409 : decode b_La_law 409 = .ok (.iaload, 1) := by decide +kernel
theorem d_La_law_410 : decode b_La_law 410 = .ok (.aload_n 0, 1) := by decide +kernel
theorem d_La_law_411 : decode b_La_law 411 = .ok (.iload 4, 2) := by decide +kernel
theorem d_La_law_413 : decode b_La_law 413 = .ok (.iconst 5, 1) := by decide +kernel
theorem d_La_law_414 : decode b_La_law 414 = .ok (.iadd, 1) := by decide +kernel
theorem d_La_law_415 : decode b_La_law 415 = .ok (.iaload, 1) := by decide +kernel
theorem d_La_law_416 : decode b_La_law 416 = .ok (.invokevirtual 88, 3) := by decide +kernel
theorem d_La_law_419 : decode b_La_law 419 = .ok (.istore 6, 2) := by decide +kernel
theorem d_La_law_421 : decode b_La_law 421 = .ok (.aload_n 2, 1) := by decide +kernel
theorem d_La_law_422 : decode b_La_law 422 = .ok (.invokevirtual 75, 3) := by decide +kernel
theorem d_La_law_425 : decode b_La_law 425 = .ok (.iload 5, 2) := by decide +kernel
theorem d_La_law_427 : decode b_La_law 427 = .ok (.if_icmp .eq 5, 3) := by decide +kernel
theorem d_La_law_430 : decode b_La_law 430 = .ok (.iconst 0, 1) := by decide +kernel
theorem d_La_law_431 : decode b_La_law 431 = .ok (.ireturn, 1) := by decide +kernel
theorem d_La_law_432 : decode b_La_law 432 = .ok (.iload 5, 2) := by decide +kernel
theorem d_La_law_434 : decode b_La_law 434 = .ok (.ifCond .ne 15, 3) := by decide +kernel
theorem d_La_law_437 : decode b_La_law 437 = .ok (.aload_n 3, 1) := by decide +kernel
theorem d_La_law_438 : decode b_La_law 438 = .ok (.iconst 0, 1) := by decide +kernel
theorem d_La_law_439 : decode b_La_law 439 = .ok (.laload, 1) := by decide +kernel
theorem d_La_law_440 : decode b_La_law 440 = .ok (.iload 6, 2) := by decide +kernel
theorem d_La_law_442 : decode b_La_law 442 = .ok (.i2l, 1) := by decide +kernel
theorem d_La_law_443 : decode b_La_law 443 = .ok (.lcmp, 1) := by decide +kernel
theorem d_La_law_444 : decode b_La_law 444 = .ok (.ifCond .eq 5, 3) := by decide +kernel
theorem d_La_law_447 : decode b_La_law 447 = .ok (.iconst 0, 1) := by decide +kernel
theorem d_La_law_448 : decode b_La_law 448 = .ok (.ireturn, 1) := by decide +kernel
theorem d_La_law_449 : decode b_La_law 449 = .ok (.goto 711, 3) := by decide +kernel
theorem d_La_law_452 : decode b_La_law 452 = .ok (.aload_n 1, 1) := by decide +kernel
theorem d_La_law_453 : decode b_La_law 453 = .ok (.aload_n 0, 1) := by decide +kernel
theorem d_La_law_454 : decode b_La_law 454 = .ok (.iload 4, 2) := by decide +kernel
theorem d_La_law_456 : decode b_La_law 456 = .ok (.iconst 1, 1) := by decide +kernel
theorem d_La_law_457 : decode b_La_law 457 = .ok (.iadd, 1) := by decide +kernel
theorem d_La_law_458 : decode b_La_law 458 = .ok (.iaload, 1) := by decide +kernel
theorem d_La_law_459 : decode b_La_law 459 = .ok (.aload_n 0, 1) := by decide +kernel
theorem d_La_law_460 : decode b_La_law 460 = .ok (.iload 4, 2) := by decide +kernel
theorem d_La_law_462 : decode b_La_law 462 = .ok (.iconst 2, 1) := by decide +kernel
theorem d_La_law_463 : decode b_La_law 463 = .ok (.iadd, 1) := by decide +kernel
theorem d_La_law_464 : decode b_La_law 464 = .ok (.iaload, 1) := by decide +kernel
theorem d_La_law_465 : decode b_La_law 465 = .ok (.aload_n 0, 1) := by decide +kernel
theorem d_La_law_466 : decode b_La_law 466 = .ok (.iload 4, 2) := by decide +kernel
theorem d_La_law_468 : decode b_La_law 468 = .ok (.iconst 3, 1) := by decide +kernel
theorem d_La_law_469 : decode b_La_law 469 = .ok (.iadd, 1) := by decide +kernel
theorem d_La_law_470 : decode b_La_law 470 = .ok (.iaload, 1) := by decide +kernel
theorem d_La_law_471 : decode b_La_law 471 = .ok (.aload_n 0, 1) := by decide +kernel
theorem d_La_law_472 : decode b_La_law 472 = .ok (.iload 4, 2) := by decide +kernel
theorem d_La_law_474 : decode b_La_law 474 = .ok (.iconst 4, 1) := by decide +kernel
theorem d_La_law_475 : decode b_La_law 475 = .ok (.iadd, 1) := by decide +kernel
theorem d_La_law_476 : decode b_La_law 476 = .ok (.iaload, 1) := by decide +kernel
theorem d_La_law_477 : decode b_La_law 477 = .ok (.aload_n 0, 1) := by decide +kernel
theorem d_La_law_478 : decode b_La_law 478 = .ok (.iload 4, 2) := by decide +kernel
theorem d_La_law_480 : decode b_La_law 480 = .ok (.iconst 5, 1) := by decide +kernel
theorem d_La_law_481 : decode b_La_law 481 = .ok (.iadd, 1) := by decide +kernel
theorem d_La_law_482 : decode b_La_law 482 = .ok (.iaload, 1) := by decide +kernel
theorem d_La_law_483 : decode b_La_law 483 = .ok (.aload_n 0, 1) := by decide +kernel
theorem d_La_law_484 : decode b_La_law 484 = .ok (.iload 4, 2) := by decide +kernel
theorem d_La_law_486 : decode b_La_law 486 = .ok (.bipush 6, 2) := by decide +kernel
theorem d_La_law_488 : decode b_La_law 488 = .ok (.iadd, 1) := by decide +kernel
theorem d_La_law_489 : decode b_La_law 489 = .ok (.iaload, 1) := by decide +kernel
theorem d_La_law_490 : decode b_La_law 490 = .ok (.aload_n 3, 1) := by decide +kernel
theorem d_La_law_491 : decode b_La_law 491 = .ok (.invokestatic 89, 3) := by decide +kernel
theorem d_La_law_494 : decode b_La_law 494 = .ok (.istore 5, 2) := by decide +kernel
theorem d_La_law_496 : decode b_La_law 496 = .ok (.aload_n 2, 1) := by decide +kernel
theorem d_La_law_497 : decode b_La_law 497 = .ok (.aload_n 0, 1) := by decide +kernel
theorem d_La_law_498 : decode b_La_law 498 = .ok (.iload 4, 2) := by decide +kernel
theorem d_La_law_500 : decode b_La_law 500 = .ok (.iconst 1, 1) := by decide +kernel
theorem d_La_law_501 : decode b_La_law 501 = .ok (.iadd, 1) := by decide +kernel
theorem d_La_law_502 : decode b_La_law 502 = .ok (.iaload, 1) := by decide +kernel
theorem d_La_law_503 : decode b_La_law 503 = .ok (.aload_n 0, 1) := by decide +kernel
theorem d_La_law_504 : decode b_La_law 504 = .ok (.iload 4, 2) := by decide +kernel
theorem d_La_law_506 : decode b_La_law 506 = .ok (.iconst 2, 1) := by decide +kernel
theorem d_La_law_507 : decode b_La_law 507 = .ok (.iadd, 1) := by decide +kernel
theorem d_La_law_508 : decode b_La_law 508 = .ok (.iaload, 1) := by decide +kernel
theorem d_La_law_509 : decode b_La_law 509 = .ok (.aload_n 0, 1) := by decide +kernel
theorem d_La_law_510 : decode b_La_law 510 = .ok (.iload 4, 2) := by decide +kernel
theorem d_La_law_512 : decode b_La_law 512 = .ok (.iconst 3, 1) := by decide +kernel
theorem d_La_law_513 : decode b_La_law 513 = .ok (.iadd, 1) := by decide +kernel
theorem d_La_law_514 : decode b_La_law 514 = .ok (.iaload, 1) := by decide +kernel
theorem d_La_law_515 : decode b_La_law 515 = .ok (.aload_n 0, 1) := by decide +kernel
theorem d_La_law_516 : decode b_La_law 516 = .ok (.iload 4, 2) := by decide +kernel
theorem d_La_law_518 : decode b_La_law 518 = .ok (.iconst 4, 1) := by decide +kernel
theorem d_La_law_519 : decode b_La_law 519 = .ok (.iadd, 1) := by decide +kernel
theorem d_La_law_520 : decode b_La_law 520 = .ok (.iaload, 1) := by decide +kernel
theorem d_La_law_521 : decode b_La_law 521 = .ok (.aload_n 0, 1) := by decide +kernel
theorem d_La_law_522 : decode b_La_law 522 = .ok (.iload 4, 2) := by decide +kernel
theorem d_La_law_524 : decode b_La_law 524 = .ok (.iconst 5, 1) := by decide +kernel
theorem d_La_law_525 : decode b_La_law 525 = .ok (.iadd, 1) := by decide +kernel
theorem d_La_law_526 : decode b_La_law 526 = .ok (.iaload, 1) := by decide +kernel
theorem d_La_law_527 : decode b_La_law 527 = .ok (.aload_n 0, 1) := by decide +kernel
theorem d_La_law_528 : decode b_La_law 528 = .ok (.iload 4, 2) := by decide +kernel
theorem d_La_law_530 : decode b_La_law 530 = .ok (.bipush 6, 2) := by decide +kernel
theorem d_La_law_532 : decode b_La_law 532 = .ok (.iadd, 1) := by decide +kernel
theorem d_La_law_533 : decode b_La_law 533 = .ok (.iaload, 1) := by decide +kernel
theorem d_La_law_534 : decode b_La_law 534 = .ok (.invokevirtual 92, 3) := by decide +kernel
theorem d_La_law_537 : decode b_La_law 537 = .ok (.istore 6, 2) := by decide +kernel
theorem d_La_law_539 : decode b_La_law 539 = .ok (.aload_n 2, 1) := by decide +kernel
theorem d_La_law_540 : decode b_La_law 540 = .ok (.invokevirtual 75, 3) := by decide +kernel
theorem d_La_law_543 : decode b_La_law 543 = .ok (.iload 5, 2) := by decide +kernel
theorem d_La_law_545 : decode b_La_law 545 = .ok (.if_icmp .eq 5, 3) := by decide +kernel
theorem d_La_law_548 : decode b_La_law 548 = .ok (.iconst 0, 1) := by decide +kernel
theorem d_La_law_549 : decode b_La_law 549 = .ok (.ireturn, 1) := by decide +kernel
theorem d_La_law_550 : decode b_La_law 550 = .ok (.iload 5, 2) := by decide +kernel
theorem d_La_law_552 : decode b_La_law 552 = .ok (.ifCond .ne 15, 3) := by decide +kernel
theorem d_La_law_555 : decode b_La_law 555 = .ok (.aload_n 3, 1) := by decide +kernel
theorem d_La_law_556 : decode b_La_law 556 = .ok (.iconst 0, 1) := by decide +kernel
theorem d_La_law_557 : decode b_La_law 557 = .ok (.laload, 1) := by decide +kernel
theorem d_La_law_558 : decode b_La_law 558 = .ok (.iload 6, 2) := by decide +kernel
theorem d_La_law_560 : decode b_La_law 560 = .ok (.i2l, 1) := by decide +kernel
theorem d_La_law_561 : decode b_La_law 561 = .ok (.lcmp, 1) := by decide +kernel
theorem d_La_law_562 : decode b_La_law 562 = .ok (.ifCond .eq 5, 3) := by decide +kernel
theorem d_La_law_565 : decode b_La_law 565 = .ok (.iconst 0, 1) := by decide +kernel
theorem d_La_law_566 : decode b_La_law 566 = .ok (.ireturn, 1) := by decide +kernel
theorem d_La_law_567 : decode b_La_law 567 = .ok (.goto 593, 3) := by decide +kernel
theorem d_La_law_570 : decode b_La_law 570 = .ok (.aload_n 1, 1) := by decide +kernel
theorem d_La_law_571 : decode b_La_law 571 = .ok (.aload_n 0, 1) := by decide +kernel
theorem d_La_law_572 : decode b_La_law 572 = .ok (.iload 4, 2) := by decide +kernel
theorem d_La_law_574 : decode b_La_law 574 = .ok (.iconst 1, 1) := by decide +kernel
theorem d_La_law_575 : decode b_La_law 575 = .ok (.iadd, 1) := by decide +kernel
theorem d_La_law_576 : decode b_La_law 576 = .ok (.iaload, 1) := by decide +kernel
theorem d_La_law_577 : decode b_La_law 577 = .ok (.aload_n 3, 1) := by decide +kernel
theorem d_La_law_578 : decode b_La_law 578 = .ok (.invokestatic 93, 3) := by decide +kernel
theorem d_La_law_581 : decode b_La_law 581 = .ok (.istore 5, 2) := by decide +kernel
theorem d_La_law_583 : decode b_La_law 583 = .ok (.aload_n 2, 1) := by decide +kernel
theorem d_La_law_584 : decode b_La_law 584 = .ok (.aload_n 0, 1) := by decide +kernel
theorem d_La_law_585 : decode b_La_law 585 = .ok (.iload 4, 2) := by decide +kernel
theorem d_La_law_587 : decode b_La_law 587 = .ok (.iconst 1, 1) := by decide +kernel
theorem d_La_law_588 : decode b_La_law 588 = .ok (.iadd, 1) := by decide +kernel
theorem d_La_law_589 : decode b_La_law 589 = .ok (.iaload, 1) := by decide +kernel
theorem d_La_law_590 : decode b_La_law 590 = .ok (.invokevirtual 96, 3) := by decide +kernel
theorem d_La_law_593 : decode b_La_law 593 = .ok (.istore 6, 2) := by decide +kernel
theorem d_La_law_595 : decode b_La_law 595 = .ok (.aload_n 2, 1) := by decide +kernel
theorem d_La_law_596 : decode b_La_law 596 = .ok (.invokevirtual 75, 3) := by decide +kernel
theorem d_La_law_599 : decode b_La_law 599 = .ok (.iload 5, 2) := by decide +kernel
theorem d_La_law_601 : decode b_La_law 601 = .ok (.if_icmp .eq 5, 3) := by decide +kernel
theorem d_La_law_604 : decode b_La_law 604 = .ok (.iconst 0, 1) := by decide +kernel
theorem d_La_law_605 : decode b_La_law 605 = .ok (.ireturn, 1) := by decide +kernel
theorem d_La_law_606 : decode b_La_law 606 = .ok (.iload 5, 2) := by decide +kernel
theorem d_La_law_608 : decode b_La_law 608 = .ok (.ifCond .ne 15, 3) := by decide +kernel
theorem d_La_law_611 : decode b_La_law 611 = .ok (.aload_n 3, 1) := by decide +kernel
theorem d_La_law_612 : decode b_La_law 612 = .ok (.iconst 0, 1) := by decide +kernel
theorem d_La_law_613 : decode b_La_law 613 = .ok (.laload, 1) := by decide +kernel
theorem d_La_law_614 : decode b_La_law 614 = .ok (.iload 6, 2) := by decide +kernel
theorem d_La_law_616 : decode b_La_law 616 = .ok (.i2l, 1) := by decide +kernel
theorem d_La_law_617 : decode b_La_law 617 = .ok (.lcmp, 1) := by decide +kernel
theorem d_La_law_618 : decode b_La_law 618 = .ok (.ifCond .eq 5, 3) := by decide +kernel
theorem d_La_law_621 : decode b_La_law 621 = .ok (.iconst 0, 1) := by decide +kernel
theorem d_La_law_622 : decode b_La_law 622 = .ok (.ireturn, 1) := by decide +kernel
theorem d_La_law_623 : decode b_La_law 623 = .ok (.goto 537, 3) := by decide +kernel
theorem d_La_law_626 : decode b_La_law 626 = .ok (.aload_n 1, 1) := by decide +kernel
theorem d_La_law_627 : decode b_La_law 627 = .ok (.aload_n 0, 1) := by decide +kernel
theorem d_La_law_628 : decode b_La_law 628 = .ok (.iload 4, 2) := by decide +kernel
theorem d_La_law_630 : decode b_La_law 630 = .ok (.iconst 1, 1) := by decide +kernel
theorem d_La_law_631 : decode b_La_law 631 = .ok (.iadd, 1) := by decide +kernel
theorem d_La_law_632 : decode b_La_law 632 = .ok (.iaload, 1) := by decide +kernel
theorem d_La_law_633 : decode b_La_law 633 = .ok (.aload_n 0, 1) := by decide +kernel
theorem d_La_law_634 : decode b_La_law 634 = .ok (.iload 4, 2) := by decide +kernel
theorem d_La_law_636 : decode b_La_law 636 = .ok (.iconst 2, 1) := by decide +kernel
theorem d_La_law_637 : decode b_La_law 637 = .ok (.iadd, 1) := by decide +kernel
theorem d_La_law_638 : decode b_La_law 638 = .ok (.iaload, 1) := by decide +kernel
theorem d_La_law_639 : decode b_La_law 639 = .ok (.aload_n 3, 1) := by decide +kernel
theorem d_La_law_640 : decode b_La_law 640 = .ok (.invokestatic 97, 3) := by decide +kernel
theorem d_La_law_643 : decode b_La_law 643 = .ok (.istore 5, 2) := by decide +kernel
theorem d_La_law_645 : decode b_La_law 645 = .ok (.aload_n 2, 1) := by decide +kernel
theorem d_La_law_646 : decode b_La_law 646 = .ok (.aload_n 0, 1) := by decide +kernel
theorem d_La_law_647 : decode b_La_law 647 = .ok (.iload 4, 2) := by decide +kernel
theorem d_La_law_649 : decode b_La_law 649 = .ok (.iconst 1, 1) := by decide +kernel
theorem d_La_law_650 : decode b_La_law 650 = .ok (.iadd, 1) := by decide +kernel
theorem d_La_law_651 : decode b_La_law 651 = .ok (.iaload, 1) := by decide +kernel
theorem d_La_law_652 : decode b_La_law 652 = .ok (.aload_n 0, 1) := by decide +kernel
theorem d_La_law_653 : decode b_La_law 653 = .ok (.iload 4, 2) := by decide +kernel
theorem d_La_law_655 : decode b_La_law 655 = .ok (.iconst 2, 1) := by decide +kernel
theorem d_La_law_656 : decode b_La_law 656 = .ok (.iadd, 1) := by decide +kernel
theorem d_La_law_657 : decode b_La_law 657 = .ok (.iaload, 1) := by decide +kernel
theorem d_La_law_658 : decode b_La_law 658 = .ok (.invokevirtual 100, 3) := by decide +kernel
theorem d_La_law_661 : decode b_La_law 661 = .ok (.istore 6, 2) := by decide +kernel
theorem d_La_law_663 : decode b_La_law 663 = .ok (.aload_n 2, 1) := by decide +kernel
theorem d_La_law_664 : decode b_La_law 664 = .ok (.invokevirtual 75, 3) := by decide +kernel
theorem d_La_law_667 : decode b_La_law 667 = .ok (.iload 5, 2) := by decide +kernel
theorem d_La_law_669 : decode b_La_law 669 = .ok (.if_icmp .eq 5, 3) := by decide +kernel
theorem d_La_law_672 : decode b_La_law 672 = .ok (.iconst 0, 1) := by decide +kernel
theorem d_La_law_673 : decode b_La_law 673 = .ok (.ireturn, 1) := by decide +kernel
theorem d_La_law_674 : decode b_La_law 674 = .ok (.iload 5, 2) := by decide +kernel
theorem d_La_law_676 : decode b_La_law 676 = .ok (.ifCond .ne 15, 3) := by decide +kernel
theorem d_La_law_679 : decode b_La_law 679 = .ok (.aload_n 3, 1) := by decide +kernel
theorem d_La_law_680 : decode b_La_law 680 = .ok (.iconst 0, 1) := by decide +kernel
theorem d_La_law_681 : decode b_La_law 681 = .ok (.laload, 1) := by decide +kernel
theorem d_La_law_682 : decode b_La_law 682 = .ok (.iload 6, 2) := by decide +kernel
theorem d_La_law_684 : decode b_La_law 684 = .ok (.i2l, 1) := by decide +kernel
theorem d_La_law_685 : decode b_La_law 685 = .ok (.lcmp, 1) := by decide +kernel
theorem d_La_law_686 : decode b_La_law 686 = .ok (.ifCond .eq 5, 3) := by decide +kernel
theorem d_La_law_689 : decode b_La_law 689 = .ok (.iconst 0, 1) := by decide +kernel
theorem d_La_law_690 : decode b_La_law 690 = .ok (.ireturn, 1) := by decide +kernel
theorem d_La_law_691 : decode b_La_law 691 = .ok (.goto 469, 3) := by decide +kernel
theorem d_La_law_694 : decode b_La_law 694 = .ok (.aload_n 1, 1) := by decide +kernel
theorem d_La_law_695 : decode b_La_law 695 = .ok (.aload_n 0, 1) := by decide +kernel
theorem d_La_law_696 : decode b_La_law 696 = .ok (.iload 4, 2) := by decide +kernel
theorem d_La_law_698 : decode b_La_law 698 = .ok (.iconst 1, 1) := by decide +kernel
theorem d_La_law_699 : decode b_La_law 699 = .ok (.iadd, 1) := by decide +kernel
theorem d_La_law_700 : decode b_La_law 700 = .ok (.iaload, 1) := by decide +kernel
theorem d_La_law_701 : decode b_La_law 701 = .ok (.aload_n 3, 1) := by decide +kernel
theorem d_La_law_702 : decode b_La_law 702 = .ok (.invokestatic 101, 3) := by decide +kernel
theorem d_La_law_705 : decode b_La_law 705 = .ok (.istore 5, 2) := by decide +kernel
theorem d_La_law_707 : decode b_La_law 707 = .ok (.aload_n 2, 1) := by decide +kernel
theorem d_La_law_708 : decode b_La_law 708 = .ok (.aload_n 0, 1) := by decide +kernel
theorem d_La_law_709 : decode b_La_law 709 = .ok (.iload 4, 2) := by decide +kernel
theorem d_La_law_711 : decode b_La_law 711 = .ok (.iconst 1, 1) := by decide +kernel
theorem d_La_law_712 : decode b_La_law 712 = .ok (.iadd, 1) := by decide +kernel
theorem d_La_law_713 : decode b_La_law 713 = .ok (.iaload, 1) := by decide +kernel
theorem d_La_law_714 : decode b_La_law 714 = .ok (.invokevirtual 103, 3) := by decide +kernel
theorem d_La_law_717 : decode b_La_law 717 = .ok (.istore 6, 2) := by decide +kernel
theorem d_La_law_719 : decode b_La_law 719 = .ok (.aload_n 2, 1) := by decide +kernel
theorem d_La_law_720 : decode b_La_law 720 = .ok (.invokevirtual 75, 3) := by decide +kernel
theorem d_La_law_723 : decode b_La_law 723 = .ok (.iload 5, 2) := by decide +kernel
theorem d_La_law_725 : decode b_La_law 725 = .ok (.if_icmp .eq 5, 3) := by decide +kernel
theorem d_La_law_728 : decode b_La_law 728 = .ok (.iconst 0, 1) := by decide +kernel
theorem d_La_law_729 : decode b_La_law 729 = .ok (.ireturn, 1) := by decide +kernel
theorem d_La_law_730 : decode b_La_law 730 = .ok (.iload 5, 2) := by decide +kernel
theorem d_La_law_732 : decode b_La_law 732 = .ok (.ifCond .ne 15, 3) := by decide +kernel
theorem d_La_law_735 : decode b_La_law 735 = .ok (.aload_n 3, 1) := by decide +kernel
theorem d_La_law_736 : decode b_La_law 736 = .ok (.iconst 0, 1) := by decide +kernel
theorem d_La_law_737 : decode b_La_law 737 = .ok (.laload, 1) := by decide +kernel
theorem d_La_law_738 : decode b_La_law 738 = .ok (.iload 6, 2) := by decide +kernel
theorem d_La_law_740 : decode b_La_law 740 = .ok (.i2l, 1) := by decide +kernel
theorem d_La_law_741 : decode b_La_law 741 = .ok (.lcmp, 1) := by decide +kernel
theorem d_La_law_742 : decode b_La_law 742 = .ok (.ifCond .eq 5, 3) := by decide +kernel
theorem d_La_law_745 : decode b_La_law 745 = .ok (.iconst 0, 1) := by decide +kernel
theorem d_La_law_746 : decode b_La_law 746 = .ok (.ireturn, 1) := by decide +kernel
theorem d_La_law_747 : decode b_La_law 747 = .ok (.goto 413, 3) := by decide +kernel
theorem d_La_law_750 : decode b_La_law 750 = .ok (.aload_n 1, 1) := by decide +kernel
theorem d_La_law_751 : decode b_La_law 751 = .ok (.aload_n 0, 1) := by decide +kernel
theorem d_La_law_752 : decode b_La_law 752 = .ok (.iload 4, 2) := by decide +kernel
theorem d_La_law_754 : decode b_La_law 754 = .ok (.iconst 1, 1) := by decide +kernel
theorem d_La_law_755 : decode b_La_law 755 = .ok (.iadd, 1) := by decide +kernel
theorem d_La_law_756 : decode b_La_law 756 = .ok (.iaload, 1) := by decide +kernel
theorem d_La_law_757 : decode b_La_law 757 = .ok (.aload_n 3, 1) := by decide +kernel
theorem d_La_law_758 : decode b_La_law 758 = .ok (.invokestatic 104, 3) := by decide +kernel
theorem d_La_law_761 : decode b_La_law 761 = .ok (.istore 5, 2) := by decide +kernel
theorem d_La_law_763 : decode b_La_law 763 = .ok (.aload_n 2, 1) := by decide +kernel
theorem d_La_law_764 : decode b_La_law 764 = .ok (.aload_n 0, 1) := by decide +kernel
theorem d_La_law_765 : decode b_La_law 765 = .ok (.iload 4, 2) := by decide +kernel
theorem d_La_law_767 : decode b_La_law 767 = .ok (.iconst 1, 1) := by decide +kernel
theorem d_La_law_768 : decode b_La_law 768 = .ok (.iadd, 1) := by decide +kernel
theorem d_La_law_769 : decode b_La_law 769 = .ok (.iaload, 1) := by decide +kernel
theorem d_La_law_770 : decode b_La_law 770 = .ok (.invokevirtual 106, 3) := by decide +kernel
theorem d_La_law_773 : decode b_La_law 773 = .ok (.istore 6, 2) := by decide +kernel
theorem d_La_law_775 : decode b_La_law 775 = .ok (.aload_n 2, 1) := by decide +kernel
theorem d_La_law_776 : decode b_La_law 776 = .ok (.invokevirtual 75, 3) := by decide +kernel
theorem d_La_law_779 : decode b_La_law 779 = .ok (.iload 5, 2) := by decide +kernel
theorem d_La_law_781 : decode b_La_law 781 = .ok (.if_icmp .eq 5, 3) := by decide +kernel
theorem d_La_law_784 : decode b_La_law 784 = .ok (.iconst 0, 1) := by decide +kernel
theorem d_La_law_785 : decode b_La_law 785 = .ok (.ireturn, 1) := by decide +kernel
theorem d_La_law_786 : decode b_La_law 786 = .ok (.iload 5, 2) := by decide +kernel
theorem d_La_law_788 : decode b_La_law 788 = .ok (.ifCond .ne 15, 3) := by decide +kernel
theorem d_La_law_791 : decode b_La_law 791 = .ok (.aload_n 3, 1) := by decide +kernel
theorem d_La_law_792 : decode b_La_law 792 = .ok (.iconst 0, 1) := by decide +kernel
theorem d_La_law_793 : decode b_La_law 793 = .ok (.laload, 1) := by decide +kernel
theorem d_La_law_794 : decode b_La_law 794 = .ok (.iload 6, 2) := by decide +kernel
theorem d_La_law_796 : decode b_La_law 796 = .ok (.i2l, 1) := by decide +kernel
theorem d_La_law_797 : decode b_La_law 797 = .ok (.lcmp, 1) := by decide +kernel
theorem d_La_law_798 : decode b_La_law 798 = .ok (.ifCond .eq 5, 3) := by decide +kernel
theorem d_La_law_801 : decode b_La_law 801 = .ok (.iconst 0, 1) := by decide +kernel
theorem d_La_law_802 : decode b_La_law 802 = .ok (.ireturn, 1) := by decide +kernel
theorem d_La_law_803 : decode b_La_law 803 = .ok (.goto 357, 3) := by decide +kernel
theorem d_La_law_806 : decode b_La_law 806 = .ok (.aload_n 1, 1) := by decide +kernel
theorem d_La_law_807 : decode b_La_law 807 = .ok (.aload_n 0, 1) := by decide +kernel
theorem d_La_law_808 : decode b_La_law 808 = .ok (.iload 4, 2) := by decide +kernel
theorem d_La_law_810 : decode b_La_law 810 = .ok (.iconst 1, 1) := by decide +kernel
theorem d_La_law_811 : decode b_La_law 811 = .ok (.iadd, 1) := by decide +kernel
theorem d_La_law_812 : decode b_La_law 812 = .ok (.iaload, 1) := by decide +kernel
theorem d_La_law_813 : decode b_La_law 813 = .ok (.aload_n 0, 1) := by decide +kernel
theorem d_La_law_814 : decode b_La_law 814 = .ok (.iload 4, 2) := by decide +kernel
theorem d_La_law_816 : decode b_La_law 816 = .ok (.iconst 2, 1) := by decide +kernel
theorem d_La_law_817 : decode b_La_law 817 = .ok (.iadd, 1) := by decide +kernel
theorem d_La_law_818 : decode b_La_law 818 = .ok (.iaload, 1) := by decide +kernel
theorem d_La_law_819 : decode b_La_law 819 = .ok (.aload_n 3, 1) := by decide +kernel
theorem d_La_law_820 : decode b_La_law 820 = .ok (.invokestatic 107, 3) := by decide +kernel
theorem d_La_law_823 : decode b_La_law 823 = .ok (.istore 5, 2) := by decide +kernel
theorem d_La_law_825 : decode b_La_law 825 = .ok (.aload_n 2, 1) := by decide +kernel
theorem d_La_law_826 : decode b_La_law 826 = .ok (.aload_n 0, 1) := by decide +kernel
theorem d_La_law_827 : decode b_La_law 827 = .ok (.iload 4, 2) := by decide +kernel
theorem d_La_law_829 : decode b_La_law 829 = .ok (.iconst 1, 1) := by decide +kernel
theorem d_La_law_830 : decode b_La_law 830 = .ok (.iadd, 1) := by decide +kernel
theorem d_La_law_831 : decode b_La_law 831 = .ok (.iaload, 1) := by decide +kernel
theorem d_La_law_832 : decode b_La_law 832 = .ok (.aload_n 0, 1) := by decide +kernel
theorem d_La_law_833 : decode b_La_law 833 = .ok (.iload 4, 2) := by decide +kernel
theorem d_La_law_835 : decode b_La_law 835 = .ok (.iconst 2, 1) := by decide +kernel
theorem d_La_law_836 : decode b_La_law 836 = .ok (.iadd, 1) := by decide +kernel
theorem d_La_law_837 : decode b_La_law 837 = .ok (.iaload, 1) := by decide +kernel
theorem d_La_law_838 : decode b_La_law 838 = .ok (.invokevirtual 109, 3) := by decide +kernel
theorem d_La_law_841 : decode b_La_law 841 = .ok (.istore 6, 2) := by decide +kernel
theorem d_La_law_843 : decode b_La_law 843 = .ok (.aload_n 2, 1) := by decide +kernel
theorem d_La_law_844 : decode b_La_law 844 = .ok (.invokevirtual 75, 3) := by decide +kernel
theorem d_La_law_847 : decode b_La_law 847 = .ok (.iload 5, 2) := by decide +kernel
theorem d_La_law_849 : decode b_La_law 849 = .ok (.if_icmp .eq 5, 3) := by decide +kernel
theorem d_La_law_852 : decode b_La_law 852 = .ok (.iconst 0, 1) := by decide +kernel
theorem d_La_law_853 : decode b_La_law 853 = .ok (.ireturn, 1) := by decide +kernel
theorem d_La_law_854 : decode b_La_law 854 = .ok (.iload 5, 2) := by decide +kernel
theorem d_La_law_856 : decode b_La_law 856 = .ok (.ifCond .ne 15, 3) := by decide +kernel
theorem d_La_law_859 : decode b_La_law 859 = .ok (.aload_n 3, 1) := by decide +kernel
theorem d_La_law_860 : decode b_La_law 860 = .ok (.iconst 0, 1) := by decide +kernel
theorem d_La_law_861 : decode b_La_law 861 = .ok (.laload, 1) := by decide +kernel
theorem d_La_law_862 : decode b_La_law 862 = .ok (.iload 6, 2) := by decide +kernel
theorem d_La_law_864 : decode b_La_law 864 = .ok (.i2l, 1) := by decide +kernel
theorem d_La_law_865 : decode b_La_law 865 = .ok (.lcmp, 1) := by decide +kernel
theorem d_La_law_866 : decode b_La_law 866 = .ok (.ifCond .eq 5, 3) := by decide +kernel
theorem d_La_law_869 : decode b_La_law 869 = .ok (.iconst 0, 1) := by decide +kernel
theorem d_La_law_870 : decode b_La_law 870 = .ok (.ireturn, 1) := by decide +kernel
theorem d_La_law_871 : decode b_La_law 871 = .ok (.goto 289, 3) := by decide +kernel
theorem d_La_law_874 : decode b_La_law 874 = .ok (.aload_n 1, 1) := by decide +kernel
theorem d_La_law_875 : decode b_La_law 875 = .ok (.aload_n 0, 1) := by decide +kernel
theorem d_La_law_876 : decode b_La_law 876 = .ok (.iload 4, 2) := by decide +kernel
theorem d_La_law_878 : decode b_La_law 878 = .ok (.iconst 1, 1) := by decide +kernel
theorem d_La_law_879 : decode b_La_law 879 = .ok (.iadd, 1) := by decide +kernel
theorem d_La_law_880 : decode b_La_law 880 = .ok (.iaload, 1) := by decide +kernel
theorem d_La_law_881 : decode b_La_law 881 = .ok (.invokevirtual 110, 3) := by decide +kernel
theorem d_La_law_884 : decode b_La_law 884 = .ok (.aload_n 2, 1) := by decide +kernel
theorem d_La_law_885 : decode b_La_law 885 = .ok (.aload_n 0, 1) := by decide +kernel
theorem d_La_law_886 : decode b_La_law 886 = .ok (.iload 4, 2) := by decide +kernel
theorem d_La_law_888 : decode b_La_law 888 = .ok (.iconst 1, 1) := by decide +kernel
theorem d_La_law_889 : decode b_La_law 889 = .ok (.iadd, 1) := by decide +kernel
theorem d_La_law_890 : decode b_La_law 890 = .ok (.iaload, 1) := by decide +kernel
theorem d_La_law_891 : decode b_La_law 891 = .ok (.invokevirtual 113, 3) := by decide +kernel
theorem d_La_law_894 : decode b_La_law 894 = .ok (.if_icmp .eq 266, 3) := by decide +kernel
theorem d_La_law_897 : decode b_La_law 897 = .ok (.iconst 0, 1) := by decide +kernel
theorem d_La_law_898 : decode b_La_law 898 = .ok (.ireturn, 1) := by decide +kernel
theorem d_La_law_899 : decode b_La_law 899 = .ok (.aload_n 1, 1) := by decide +kernel
theorem d_La_law_900 : decode b_La_law 900 = .ok (.aload_n 0, 1) := by decide +kernel
theorem d_La_law_901 : decode b_La_law 901 = .ok (.iload 4, 2) := by decide +kernel
theorem d_La_law_903 : decode b_La_law 903 = .ok (.iconst 1, 1) := by decide +kernel
theorem d_La_law_904 : decode b_La_law 904 = .ok (.iadd, 1) := by decide +kernel
theorem d_La_law_905 : decode b_La_law 905 = .ok (.iaload, 1) := by decide +kernel
theorem d_La_law_906 : decode b_La_law 906 = .ok (.aload_n 3, 1) := by decide +kernel
theorem d_La_law_907 : decode b_La_law 907 = .ok (.invokestatic 114, 3) := by decide +kernel
theorem d_La_law_910 : decode b_La_law 910 = .ok (.istore 5, 2) := by decide +kernel
theorem d_La_law_912 : decode b_La_law 912 = .ok (.aload_n 2, 1) := by decide +kernel
theorem d_La_law_913 : decode b_La_law 913 = .ok (.aload_n 0, 1) := by decide +kernel
theorem d_La_law_914 : decode b_La_law 914 = .ok (.iload 4, 2) := by decide +kernel
theorem d_La_law_916 : decode b_La_law 916 = .ok (.iconst 1, 1) := by decide +kernel
theorem d_La_law_917 : decode b_La_law 917 = .ok (.iadd, 1) := by decide +kernel
theorem d_La_law_918 : decode b_La_law 918 = .ok (.iaload, 1) := by decide +kernel
theorem d_La_law_919 : decode b_La_law 919 = .ok (.invokevirtual 116, 3) := by decide +kernel
theorem d_La_law_922 : decode b_La_law 922 = .ok (.istore 6, 2) := by decide +kernel
theorem d_La_law_924 : decode b_La_law 924 = .ok (.aload_n 2, 1) := by decide +kernel
theorem d_La_law_925 : decode b_La_law 925 = .ok (.invokevirtual 75, 3) := by decide +kernel
theorem d_La_law_928 : decode b_La_law 928 = .ok (.iload 5, 2) := by decide +kernel
theorem d_La_law_930 : decode b_La_law 930 = .ok (.if_icmp .eq 5, 3) := by decide +kernel
theorem d_La_law_933 : decode b_La_law 933 = .ok (.iconst 0, 1) := by decide +kernel
theorem d_La_law_934 : decode b_La_law 934 = .ok (.ireturn, 1) := by decide +kernel
theorem d_La_law_935 : decode b_La_law 935 = .ok (.iload 5, 2) := by decide +kernel
theorem d_La_law_937 : decode b_La_law 937 = .ok (.ifCond .ne 15, 3) := by decide +kernel
theorem d_La_law_940 : decode b_La_law 940 = .ok (.aload_n 3, 1) := by decide +kernel
theorem d_La_law_941 : decode b_La_law 941 = .ok (.iconst 0, 1) := by decide +kernel
theorem d_La_law_942 : decode b_La_law 942 = .ok (.laload, 1) := by decide +kernel
theorem d_La_law_943 : decode b_La_law 943 = .ok (.iload 6, 2) := by decide +kernel
theorem d_La_law_945 : decode b_La_law 945 = .ok (.i2l, 1) := by decide +kernel
theorem d_La_law_946 : decode b_La_law 946 = .ok (.lcmp, 1) := by decide +kernel
theorem d_La_law_947 : decode b_La_law 947 = .ok (.ifCond .eq 5, 3) := by decide +kernel
theorem d_La_law_950 : decode b_La_law 950 = .ok (.iconst 0, 1) := by decide +kernel
theorem d_La_law_951 : decode b_La_law 951 = .ok (.ireturn, 1) := by decide +kernel
theorem d_La_law_952 : decode b_La_law 952 = .ok (.goto 208, 3) := by decide +kernel
theorem d_La_law_955 : decode b_La_law 955 = .ok (.aload_n 1, 1) := by decide +kernel
theorem d_La_law_956 : decode b_La_law 956 = .ok (.aload_n 0, 1) := by decide +kernel
theorem d_La_law_957 : decode b_La_law 957 = .ok (.iload 4, 2) := by decide +kernel
theorem d_La_law_959 : decode b_La_law 959 = .ok (.iconst 1, 1) := by decide +kernel
theorem d_La_law_960 : decode b_La_law 960 = .ok (.iadd, 1) := by decide +kernel
theorem d_La_law_961 : decode b_La_law 961 = .ok (.iaload, 1) := by decide +kernel
theorem d_La_law_962 : decode b_La_law 962 = .ok (.aload_n 3, 1) := by decide +kernel
theorem d_La_law_963 : decode b_La_law 963 = .ok (.invokestatic 117, 3) := by decide +kernel
theorem d_La_law_966 : decode b_La_law 966 = .ok (.istore 5, 2) := by decide +kernel
theorem d_La_law_968 : decode b_La_law 968 = .ok (.aload_n 2, 1) := by decide +kernel
theorem d_La_law_969 : decode b_La_law 969 = .ok (.aload_n 0, 1) := by decide +kernel
theorem d_La_law_970 : decode b_La_law 970 = .ok (.iload 4, 2) := by decide +kernel
theorem d_La_law_972 : decode b_La_law 972 = .ok (.iconst 1, 1) := by decide +kernel
theorem d_La_law_973 : decode b_La_law 973 = .ok (.iadd, 1) := by decide +kernel
theorem d_La_law_974 : decode b_La_law 974 = .ok (.iaload, 1) := by decide +kernel
theorem d_La_law_975 : decode b_La_law 975 = .ok (.invokevirtual 119, 3) := by decide +kernel
theorem d_La_law_978 : decode b_La_law 978 = .ok (.istore 6, 2) := by decide +kernel
theorem d_La_law_980 : decode b_La_law 980 = .ok (.aload_n 2, 1) := by decide +kernel
theorem d_La_law_981 : decode b_La_law 981 = .ok (.invokevirtual 75, 3) := by decide +kernel
theorem d_La_law_984 : decode b_La_law 984 = .ok (.iload 5, 2) := by decide +kernel
theorem d_La_law_986 : decode b_La_law 986 = .ok (.if_icmp .eq 5, 3) := by decide +kernel
theorem d_La_law_989 : decode b_La_law 989 = .ok (.iconst 0, 1) := by decide +kernel
theorem d_La_law_990 : decode b_La_law 990 = .ok (.ireturn, 1) := by decide +kernel
theorem d_La_law_991 : decode b_La_law 991 = .ok (.iload 5, 2) := by decide +kernel
theorem d_La_law_993 : decode b_La_law 993 = .ok (.ifCond .ne 15, 3) := by decide +kernel
theorem d_La_law_996 : decode b_La_law 996 = .ok (.aload_n 3, 1) := by decide +kernel
theorem d_La_law_997 : decode b_La_law 997 = .ok (.iconst 0, 1) := by decide +kernel
theorem d_La_law_998 : decode b_La_law 998 = .ok (.laload, 1) := by decide +kernel
theorem d_La_law_999 : decode b_La_law 999 = .ok (.iload 6, 2) := by decide +kernel
theorem d_La_law_1001 : decode b_La_law 1001 = .ok (.i2l, 1) := by decide +kernel
theorem d_La_law_1002 : decode b_La_law 1002 = .ok (.lcmp, 1) := by decide +kernel
theorem d_La_law_1003 : decode b_La_law 1003 = .ok (.ifCond .eq 5, 3) := by decide +kernel
theorem d_La_law_1006 : decode b_La_law 1006 = .ok (.iconst 0, 1) := by decide +kernel
theorem d_La_law_1007 : decode b_La_law 1007 = .ok (.ireturn, 1) := by decide +kernel
theorem d_La_law_1008 : decode b_La_law 1008 = .ok (.goto 152, 3) := by decide +kernel
theorem d_La_law_1011 : decode b_La_law 1011 = .ok (.aload_n 1, 1) := by decide +kernel
theorem d_La_law_1012 : decode b_La_law 1012 = .ok (.aload_n 0, 1) := by decide +kernel
theorem d_La_law_1013 : decode b_La_law 1013 = .ok (.iload 4, 2) := by decide +kernel
theorem d_La_law_1015 : decode b_La_law 1015 = .ok (.iconst 1, 1) := by decide +kernel
theorem d_La_law_1016 : decode b_La_law 1016 = .ok (.iadd, 1) := by decide +kernel
theorem d_La_law_1017 : decode b_La_law 1017 = .ok (.iaload, 1) := by decide +kernel
theorem d_La_law_1018 : decode b_La_law 1018 = .ok (.aload_n 0, 1) := by decide +kernel
theorem d_La_law_1019 : decode b_La_law 1019 = .ok (.iload 4, 2) := by decide +kernel
theorem d_La_law_1021 : decode b_La_law 1021 = .ok (.iconst 2, 1) := by decide +kernel
theorem d_La_law_1022 : decode b_La_law 1022 = .ok (.iadd, 1) := by decide +kernel
theorem d_La_law_1023 : decode b_La_law 1023 = .ok (.iaload, 1) := by decide +kernel
theorem d_La_law_1024 : decode b_La_law 1024 = .ok (.aload_n 3, 1) := by decide +kernel
theorem d_La_law_1025 : decode b_La_law 1025 = .ok (.invokestatic 120, 3) := by decide +kernel
theorem d_La_law_1028 : decode b_La_law 1028 = .ok (.istore 5, 2) := by decide +kernel
theorem d_La_law_1030 : decode b_La_law 1030 = .ok (.aload_n 2, 1) := by decide +kernel
theorem d_La_law_1031 : decode b_La_law 1031 = .ok (.aload_n 0, 1) := by decide +kernel
theorem d_La_law_1032 : decode b_La_law 1032 = .ok (.iload 4, 2) := by decide +kernel
theorem d_La_law_1034 : decode b_La_law 1034 = .ok (.iconst 1, 1) := by decide +kernel
theorem d_La_law_1035 : decode b_La_law 1035 = .ok (.iadd, 1) := by decide +kernel
theorem d_La_law_1036 : decode b_La_law 1036 = .ok (.iaload, 1) := by decide +kernel
theorem d_La_law_1037 : decode b_La_law 1037 = .ok (.aload_n 0, 1) := by decide +kernel
theorem d_La_law_1038 : decode b_La_law 1038 = .ok (.iload 4, 2) := by decide +kernel
theorem d_La_law_1040 : decode b_La_law 1040 = .ok (.iconst 2, 1) := by decide +kernel
theorem d_La_law_1041 : decode b_La_law 1041 = .ok (.iadd, 1) := by decide +kernel
theorem d_La_law_1042 : decode b_La_law 1042 = .ok (.iaload, 1) := by decide +kernel
theorem d_La_law_1043 : decode b_La_law 1043 = .ok (.invokevirtual 122, 3) := by decide +kernel
theorem d_La_law_1046 : decode b_La_law 1046 = .ok (.istore 6, 2) := by decide +kernel
theorem d_La_law_1048 : decode b_La_law 1048 = .ok (.aload_n 2, 1) := by decide +kernel
theorem d_La_law_1049 : decode b_La_law 1049 = .ok (.invokevirtual 75, 3) := by decide +kernel
theorem d_La_law_1052 : decode b_La_law 1052 = .ok (.iload 5, 2) := by decide +kernel
theorem d_La_law_1054 : decode b_La_law 1054 = .ok (.if_icmp .eq 5, 3) := by decide +kernel
theorem d_La_law_1057 : decode b_La_law 1057 = .ok (.iconst 0, 1) := by decide +kernel
theorem d_La_law_1058 : decode b_La_law 1058 = .ok (.ireturn, 1) := by decide +kernel
theorem d_La_law_1059 : decode b_La_law 1059 = .ok (.iload 5, 2) := by decide +kernel
theorem d_La_law_1061 : decode b_La_law 1061 = .ok (.ifCond .ne 15, 3) := by decide +kernel
theorem d_La_law_1064 : decode b_La_law 1064 = .ok (.aload_n 3, 1) := by decide +kernel
theorem d_La_law_1065 : decode b_La_law 1065 = .ok (.iconst 0, 1) := by decide +kernel
theorem d_La_law_1066 : decode b_La_law 1066 = .ok (.laload, 1) := by decide +kernel
theorem d_La_law_1067 : decode b_La_law 1067 = .ok (.iload 6, 2) := by decide +kernel
theorem d_La_law_1069 : decode b_La_law 1069 = .ok (.i2l, 1) := by decide +kernel
theorem d_La_law_1070 : decode b_La_law 1070 = .ok (.lcmp, 1) := by decide +kernel
theorem d_La_law_1071 : decode b_La_law 1071 = .ok (.ifCond .eq 5, 3) := by decide +kernel
theorem d_La_law_1074 : decode b_La_law 1074 = .ok (.iconst 0, 1) := by decide +kernel
theorem d_La_law_1075 : decode b_La_law 1075 = .ok (.ireturn, 1) := by decide +kernel
theorem d_La_law_1076 : decode b_La_law 1076 = .ok (.goto 84, 3) := by decide +kernel
theorem d_La_law_1079 : decode b_La_law 1079 = .ok (.aload_n 1, 1) := by decide +kernel
theorem d_La_law_1080 : decode b_La_law 1080 = .ok (.aload_n 0, 1) := by decide +kernel
theorem d_La_law_1081 : decode b_La_law 1081 = .ok (.iload 4, 2) := by decide +kernel
theorem d_La_law_1083 : decode b_La_law 1083 = .ok (.iconst 1, 1) := by decide +kernel
theorem d_La_law_1084 : decode b_La_law 1084 = .ok (.iadd, 1) := by decide +kernel
theorem d_La_law_1085 : decode b_La_law 1085 = .ok (.iaload, 1) := by decide +kernel
theorem d_La_law_1086 : decode b_La_law 1086 = .ok (.aload_n 3, 1) := by decide +kernel
theorem d_La_law_1087 : decode b_La_law 1087 = .ok (.invokestatic 123, 3) := by decide +kernel
theorem d_La_law_1090 : decode b_La_law 1090 = .ok (.istore 5, 2) := by decide +kernel
theorem d_La_law_1092 : decode b_La_law 1092 = .ok (.aload_n 2, 1) := by decide +kernel
theorem d_La_law_1093 : decode b_La_law 1093 = .ok (.aload_n 0, 1) := by decide +kernel
theorem d_La_law_1094 : decode b_La_law 1094 = .ok (.iload 4, 2) := by decide +kernel
theorem d_La_law_1096 : decode b_La_law 1096 = .ok (.iconst 1, 1) := by decide +kernel
theorem d_La_law_1097 : decode b_La_law 1097 = .ok (.iadd, 1) := by decide +kernel
theorem d_La_law_1098 : decode b_La_law 1098 = .ok (.iaload, 1) := by decide +kernel
theorem d_La_law_1099 : decode b_La_law 1099 = .ok (.invokevirtual 125, 3) := by decide +kernel
theorem d_La_law_1102 : decode b_La_law 1102 = .ok (.istore 6, 2) := by decide +kernel
theorem d_La_law_1104 : decode b_La_law 1104 = .ok (.aload_n 2, 1) := by decide +kernel
theorem d_La_law_1105 : decode b_La_law 1105 = .ok (.invokevirtual 75, 3) := by decide +kernel
theorem d_La_law_1108 : decode b_La_law 1108 = .ok (.iload 5, 2) := by decide +kernel
theorem d_La_law_1110 : decode b_La_law 1110 = .ok (.if_icmp .eq 5, 3) := by decide +kernel
theorem d_La_law_1113 : decode b_La_law 1113 = .ok (.iconst 0, 1) := by decide +kernel
theorem d_La_law_1114 : decode b_La_law 1114 = .ok (.ireturn, 1) := by decide +kernel
theorem d_La_law_1115 : decode b_La_law 1115 = .ok (.iload 5, 2) := by decide +kernel
theorem d_La_law_1117 : decode b_La_law 1117 = .ok (.ifCond .ne 15, 3) := by decide +kernel
theorem d_La_law_1120 : decode b_La_law 1120 = .ok (.aload_n 3, 1) := by decide +kernel
theorem d_La_law_1121 : decode b_La_law 1121 = .ok (.iconst 0, 1) := by decide +kernel
theorem d_La_law_1122 : decode b_La_law 1122 = .ok (.laload, 1) := by decide +kernel
theorem d_La_law_1123 : decode b_La_law 1123 = .ok (.iload 6, 2) := by decide +kernel
theorem d_La_law_1125 : decode b_La_law 1125 = .ok (.i2l, 1) := by decide +kernel
theorem d_La_law_1126 : decode b_La_law 1126 = .ok (.lcmp, 1) := by decide +kernel
theorem d_La_law_1127 : decode b_La_law 1127 = .ok (.ifCond .eq 5, 3) := by decide +kernel
theorem d_La_law_1130 : decode b_La_law 1130 = .ok (.iconst 0, 1) := by decide +kernel
theorem d_La_law_1131 : decode b_La_law 1131 = .ok (.ireturn, 1) := by decide +kernel
theorem d_La_law_1132 : decode b_La_law 1132 = .ok (.goto 28, 3) := by decide +kernel
theorem d_La_law_1135 : decode b_La_law 1135 = .ok (.aload_n 1, 1) := by decide +kernel
theorem d_La_law_1136 : decode b_La_law 1136 = .ok (.aload_n 0, 1) := by decide +kernel
theorem d_La_law_1137 : decode b_La_law 1137 = .ok (.iload 4, 2) := by decide +kernel
theorem d_La_law_1139 : decode b_La_law 1139 = .ok (.iconst 1, 1) := by decide +kernel
theorem d_La_law_1140 : decode b_La_law 1140 = .ok (.iadd, 1) := by decide +kernel
theorem d_La_law_1141 : decode b_La_law 1141 = .ok (.iaload, 1) := by decide +kernel
theorem d_La_law_1142 : decode b_La_law 1142 = .ok (.invokevirtual 126, 3) := by decide +kernel
theorem d_La_law_1145 : decode b_La_law 1145 = .ok (.aload_n 2, 1) := by decide +kernel
theorem d_La_law_1146 : decode b_La_law 1146 = .ok (.aload_n 0, 1) := by decide +kernel
theorem d_La_law_1147 : decode b_La_law 1147 = .ok (.iload 4, 2) := by decide +kernel
theorem d_La_law_1149 : decode b_La_law 1149 = .ok (.iconst 1, 1) := by decide +kernel
theorem d_La_law_1150 : decode b_La_law 1150 = .ok (.iadd, 1) := by decide +kernel
theorem d_La_law_1151 : decode b_La_law 1151 = .ok (.iaload, 1) := by decide +kernel
theorem d_La_law_1152 : decode b_La_law 1152 = .ok (.invokevirtual 129, 3) := by decide +kernel
theorem d_La_law_1155 : decode b_La_law 1155 = .ok (.if_icmp .eq 5, 3) := by decide +kernel
theorem d_La_law_1158 : decode b_La_law 1158 = .ok (.iconst 0, 1) := by decide +kernel
theorem d_La_law_1159 : decode b_La_law 1159 = .ok (.ireturn, 1) := by decide +kernel
theorem d_La_law_1160 : decode b_La_law 1160 = .ok (.iinc 4 7, 3) := by decide +kernel
theorem d_La_law_1163 : decode b_La_law 1163 = .ok (.goto (-1140), 3) := by decide +kernel
theorem d_La_law_1166 : decode b_La_law 1166 = .ok (.iconst 1, 1) := by decide +kernel
theorem d_La_law_1167 : decode b_La_law 1167 = .ok (.ireturn, 1) := by decide +kernel
