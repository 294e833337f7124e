/-- worlds by their leaves -/
def wd00_0 (x0 : Nat) (x1 x2 x3 x4 x5 x6 x7 x8 x9 x10 x11 x12 x13 x14 x15 x16 x17 x18 : Value) (x19 : Int32) : va_W := [(x0, .inr (10, [x1, x2, x3, x4, x5, x6, x7, x8, x9, x10, x11, x12, x13, x14, x15, x16, x17, x18, .int x19]))]
def wd00_1 (x0 x1 : Nat) (x2 x3 x4 : Value) (x5 x6 : Nat) (x7 : Value) (x8 x9 x10 : Nat) (x11 : ClassId) (x12 : Nat → Int32) (x13 : Nat) (x14 : ClassId) (x15 : Nat → Int32) : va_W := [(x0, .inr (1, [.ref x1, x2, x3, x4])), (x5, .inr (1, [.ref x6, x7, .ref x8, .ref x9])), (x10, .inl (x11, 64, .inl x12)), (x13, .inl (x14, 64, .inl x15))]
def wd00_2 (x0 x1 : Nat) (x2 : Value) (x3 x4 x5 x6 : Nat) (x7 : Value) (x8 x9 x10 : Nat) (x11 : ClassId) (x12 : Nat → Int32) (x13 : Nat) (x14 : ClassId) (x15 : Nat → Int32) : va_W := [(x0, .inr (1, [.ref x1, x2, .ref x3, .ref x4])), (x5, .inr (1, [.ref x6, x7, .ref x8, .ref x9])), (x10, .inl (x11, 64, .inl x12)), (x13, .inl (x14, 64, .inl x15))]
def wd00_3 (x0 x1 : Nat) (x2 : Value) (x3 : Nat) (x4 : Value) (x5 x6 : Nat) (x7 : Value) (x8 x9 x10 : Nat) (x11 : ClassId) (x12 : Nat → Int32) (x13 : Nat) (x14 : ClassId) (x15 : Nat → Int32) : va_W := [(x0, .inr (1, [.ref x1, x2, .ref x3, x4])), (x5, .inr (1, [.ref x6, x7, .ref x8, .ref x9])), (x10, .inl (x11, 64, .inl x12)), (x13, .inl (x14, 64, .inl x15))]
def wd00_4 (x0 x1 : Nat) (x2 x3 x4 : Value) (x5 : Nat) (x6 : ClassId) (x7 : Nat → Int32) : va_W := [(x0, .inr (1, [.ref x1, x2, x3, x4])), (x5, .inl (x6, 64, .inl x7))]
def wd00_5 (x0 : Nat) (x1 x2 x3 x4 x5 x6 x7 x8 x9 x10 x11 : Value) (x12 : Int32) : va_W := [(x0, .inr (2, [x1, x2, x3, x4, x5, x6, x7, x8, x9, x10, x11, .int x12]))]
def wd00_6 (x0 x1 : Nat) (x2 : Value) (x3 : Nat) (x4 : Value) (x5 : Nat) (x6 x7 x8 x9 x10 x11 x12 x13 x14 : Value) (x15 : Int32) (x16 : Value) (x17 : Int32) (x18 : Nat) (x19 : ClassId) (x20 : Nat → Int32) : va_W := [(x0, .inr (1, [.ref x1, x2, .ref x3, x4])), (x5, .inr (2, [x6, x7, x8, x9, x10, x11, x12, x13, x14, .int x15, x16, .int x17])), (x18, .inl (x19, 64, .inl x20))]
def wd00_7 (x0 x1 : Nat) (x2 : Value) (x3 : Nat) (x4 : Value) (x5 : Nat) (x6 : ClassId) (x7 : Nat → Int32) : va_W := [(x0, .inr (1, [.ref x1, x2, .ref x3, x4])), (x5, .inl (x6, 64, .inl x7))]
def wd00_8 (x0 : Nat) (x1 x2 x3 x4 x5 x6 x7 x8 x9 : Value) (x10 : Int32) (x11 : Value) (x12 : Int32) : va_W := [(x0, .inr (2, [x1, x2, x3, x4, x5, x6, x7, x8, x9, .int x10, x11, .int x12]))]
def wd00_9 (x0 x1 : Nat) (x2 : Value) (x3 : Nat) (x4 : Value) (x5 : Nat) (x6 x7 x8 x9 x10 x11 x12 x13 x14 : Value) (x15 : Int32) (x16 x17 : Value) (x18 : Nat) (x19 : ClassId) (x20 : Nat → Int32) : va_W := [(x0, .inr (1, [.ref x1, x2, .ref x3, x4])), (x5, .inr (2, [x6, x7, x8, x9, x10, x11, x12, x13, x14, .int x15, x16, x17])), (x18, .inl (x19, 64, .inl x20))]
def wd00_10 (x0 x1 : Nat) (x2 : Value) (x3 : Nat) (x4 : Value) (x5 : Nat) (x6 x7 x8 x9 x10 : Value) (x11 : Nat) (x12 x13 x14 : Value) (x15 : Int32) (x16 : Value) (x17 : Int32) (x18 : Nat) (x19 : ClassId) (x20 : Nat → Int32) (x21 : Nat) (x22 : ClassId) (x23 : Nat → Int32) : va_W := [(x0, .inr (1, [.ref x1, x2, .ref x3, x4])), (x5, .inr (2, [x6, x7, x8, x9, x10, .ref x11, x12, x13, x14, .int x15, x16, .int x17])), (x18, .inl (x19, 64, .inl x20)), (x21, .inl (x22, 6, .inl x23))]
def wd00_11 (x0 x1 : Nat) (x2 : Value) (x3 : Nat) (x4 : Value) (x5 : Nat) (x6 x7 x8 x9 x10 : Value) (x11 : Nat) (x12 x13 x14 : Value) (x15 : Int32) (x16 : Value) (x17 : Int32) (x18 : Nat) (x19 : ClassId) (x20 : Nat → Int32) : va_W := [(x0, .inr (1, [.ref x1, x2, .ref x3, x4])), (x5, .inr (2, [x6, x7, x8, x9, x10, .ref x11, x12, x13, x14, .int x15, x16, .int x17])), (x18, .inl (x19, 64, .inl x20))]
def wd00_12 (x0 : Nat) (x1 : ClassId) (x2 : Nat → Int32) : va_W := [(x0, .inl (x1, 6, .inl x2))]
def wd00_13 (x0 : Nat) (x1 x2 x3 x4 x5 x6 x7 x8 : Value) (x9 x10 : Nat) (x11 x12 x13 x14 x15 x16 x17 x18 : Value) (x19 : Int32) (x20 x21 : Nat) (x22 : Value) (x23 x24 x25 x26 : Nat) (x27 : Value) (x28 x29 x30 : Nat) (x31 : ClassId) (x32 : Nat → Int32) (x33 : Nat) (x34 : ClassId) (x35 : Nat → Int32) (x36 : Nat) (x37 x38 x39 x40 x41 : Value) (x42 : Nat) (x43 x44 x45 : Value) (x46 : Int32) (x47 : Value) (x48 : Int32) (x49 : Nat) (x50 : ClassId) (x51 : Nat → Int32) : va_W := [(x0, .inr (10, [x1, x2, x3, x4, x5, x6, x7, x8, .ref x9, .ref x10, x11, x12, x13, x14, x15, x16, x17, x18, .int x19])), (x20, .inr (1, [.ref x21, x22, .ref x23, .ref x24])), (x25, .inr (1, [.ref x26, x27, .ref x28, .ref x29])), (x30, .inl (x31, 64, .inl x32)), (x33, .inl (x34, 64, .inl x35)), (x36, .inr (2, [x37, x38, x39, x40, x41, .ref x42, x43, x44, x45, .int x46, x47, .int x48])), (x49, .inl (x50, 6, .inl x51))]
def wd00_14 (x0 : Nat) (x1 x2 x3 x4 x5 x6 x7 x8 : Value) (x9 x10 : Nat) (x11 x12 x13 x14 x15 x16 x17 x18 : Value) (x19 : Int32) (x20 x21 : Nat) (x22 x23 x24 : Value) (x25 x26 : Nat) (x27 : Value) (x28 x29 x30 : Nat) (x31 : ClassId) (x32 : Nat → Int32) (x33 : Nat) (x34 : ClassId) (x35 : Nat → Int32) (x36 : Nat) (x37 x38 x39 x40 x41 : Value) (x42 : Nat) (x43 x44 x45 : Value) (x46 : Int32) (x47 : Value) (x48 : Int32) (x49 : Nat) (x50 : ClassId) (x51 : Nat → Int32) : va_W := [(x0, .inr (10, [x1, x2, x3, x4, x5, x6, x7, x8, .ref x9, .ref x10, x11, x12, x13, x14, x15, x16, x17, x18, .int x19])), (x20, .inr (1, [.ref x21, x22, x23, x24])), (x25, .inr (1, [.ref x26, x27, .ref x28, .ref x29])), (x30, .inl (x31, 64, .inl x32)), (x33, .inl (x34, 64, .inl x35)), (x36, .inr (2, [x37, x38, x39, x40, x41, .ref x42, x43, x44, x45, .int x46, x47, .int x48])), (x49, .inl (x50, 6, .inl x51))]
def wd00_15 (x0 x1 : Nat) (x2 : Value) (x3 x4 x5 : Nat) (x6 : ClassId) (x7 : Nat → Int32) : va_W := [(x0, .inr (1, [.ref x1, x2, .ref x3, .ref x4])), (x5, .inl (x6, 64, .inl x7))]
def wd00_16 (x0 : Nat) (x1 x2 x3 x4 x5 x6 x7 x8 : Value) (x9 x10 : Nat) (x11 x12 x13 x14 x15 x16 x17 x18 : Value) (x19 : Int32) (x20 x21 : Nat) (x22 : Value) (x23 x24 x25 : Nat) (x26 : ClassId) (x27 : Nat → Int32) (x28 : Nat) (x29 x30 x31 x32 x33 : Value) (x34 : Nat) (x35 x36 x37 : Value) (x38 : Int32) (x39 : Value) (x40 : Int32) (x41 : Nat) (x42 : ClassId) (x43 : Nat → Int32) : va_W := [(x0, .inr (10, [x1, x2, x3, x4, x5, x6, x7, x8, .ref x9, .ref x10, x11, x12, x13, x14, x15, x16, x17, x18, .int x19])), (x20, .inr (1, [.ref x21, x22, .ref x23, .ref x24])), (x25, .inl (x26, 64, .inl x27)), (x28, .inr (2, [x29, x30, x31, x32, x33, .ref x34, x35, x36, x37, .int x38, x39, .int x40])), (x41, .inl (x42, 6, .inl x43))]
def wd00_17 (x0 x1 : Nat) (x2 : Value) (x3 x4 x5 : Nat) (x6 x7 x8 x9 x10 : Value) (x11 : Nat) (x12 x13 x14 : Value) (x15 : Int32) (x16 : Value) (x17 : Int32) (x18 : Nat) (x19 : ClassId) (x20 : Nat → Int32) : va_W := [(x0, .inr (1, [.ref x1, x2, .ref x3, .ref x4])), (x5, .inr (2, [x6, x7, x8, x9, x10, .ref x11, x12, x13, x14, .int x15, x16, .int x17])), (x18, .inl (x19, 64, .inl x20))]
def wd00_18 (x0 x1 : Nat) (x2 : Value) (x3 x4 x5 : Nat) (x6 x7 x8 x9 x10 : Value) (x11 : Nat) (x12 x13 x14 : Value) (x15 : Int32) (x16 : Value) (x17 : Int32) (x18 : Nat) (x19 : ClassId) (x20 : Nat → Int32) (x21 : Nat) (x22 : ClassId) (x23 : Nat → Int32) : va_W := [(x0, .inr (1, [.ref x1, x2, .ref x3, .ref x4])), (x5, .inr (2, [x6, x7, x8, x9, x10, .ref x11, x12, x13, x14, .int x15, x16, .int x17])), (x18, .inl (x19, 64, .inl x20)), (x21, .inl (x22, 6, .inl x23))]
def wd00_19 (x0 : Nat) (x1 x2 x3 x4 x5 x6 x7 x8 : Value) (x9 x10 : Nat) (x11 x12 x13 x14 x15 x16 x17 x18 : Value) (x19 : Int32) : va_W := [(x0, .inr (10, [x1, x2, x3, x4, x5, x6, x7, x8, .ref x9, .ref x10, x11, x12, x13, x14, x15, x16, x17, x18, .int x19]))]
def wd00_20 (x0 x1 : Nat) (x2 x3 x4 : Value) (x5 x6 : Nat) (x7 : Value) (x8 x9 x10 : Nat) (x11 : ClassId) (x12 : Nat → Int32) (x13 : Nat) (x14 : ClassId) (x15 : Nat → Int32) (x16 : Nat) (x17 x18 x19 x20 x21 : Value) (x22 : Nat) (x23 x24 x25 : Value) (x26 : Int32) (x27 : Value) (x28 : Int32) (x29 : Nat) (x30 : ClassId) (x31 : Nat → Int32) : va_W := [(x0, .inr (1, [.ref x1, x2, x3, x4])), (x5, .inr (1, [.ref x6, x7, .ref x8, .ref x9])), (x10, .inl (x11, 64, .inl x12)), (x13, .inl (x14, 64, .inl x15)), (x16, .inr (2, [x17, x18, x19, x20, x21, .ref x22, x23, x24, x25, .int x26, x27, .int x28])), (x29, .inl (x30, 6, .inl x31))]
def wd00_21 (x0 : Nat) (x1 : Value) (x2 : Nat) (x3 : Value) (x4 : Nat) (x5 x6 x7 x8 : Value) (x9 x10 : Nat) (x11 x12 x13 x14 x15 x16 x17 x18 : Value) (x19 : Int32) (x20 x21 : Nat) (x22 x23 x24 : Value) (x25 x26 : Nat) (x27 : Value) (x28 x29 x30 : Nat) (x31 : ClassId) (x32 : Nat → Int32) (x33 : Nat) (x34 : ClassId) (x35 : Nat → Int32) (x36 : Nat) (x37 x38 x39 x40 x41 : Value) (x42 : Nat) (x43 x44 x45 : Value) (x46 : Int32) (x47 : Value) (x48 : Int32) (x49 : Nat) (x50 : ClassId) (x51 : Nat → Int32) (x52 : Nat) (x53 : ClassId) (x54 : Nat) (x55 : Nat → Int64) : va_W := [(x0, .inr (10, [x1, .ref x2, x3, .ref x4, x5, x6, x7, x8, .ref x9, .ref x10, x11, x12, x13, x14, x15, x16, x17, x18, .int x19])), (x20, .inr (1, [.ref x21, x22, x23, x24])), (x25, .inr (1, [.ref x26, x27, .ref x28, .ref x29])), (x30, .inl (x31, 64, .inl x32)), (x33, .inl (x34, 64, .inl x35)), (x36, .inr (2, [x37, x38, x39, x40, x41, .ref x42, x43, x44, x45, .int x46, x47, .int x48])), (x49, .inl (x50, 6, .inl x51)), (x52, .inl (x53, x54, .inr (.inl x55)))]
def wd00_22 (x0 : Nat) (x1 : Value) (x2 : Nat) (x3 : Value) (x4 : Nat) (x5 x6 x7 x8 : Value) (x9 x10 : Nat) (x11 x12 x13 x14 x15 x16 x17 x18 : Value) (x19 : Int32) (x20 x21 : Nat) (x22 x23 x24 : Value) (x25 x26 : Nat) (x27 : Value) (x28 x29 x30 : Nat) (x31 : ClassId) (x32 : Nat → Int32) (x33 : Nat) (x34 : ClassId) (x35 : Nat → Int32) (x36 : Nat) (x37 x38 x39 x40 x41 : Value) (x42 : Nat) (x43 x44 x45 : Value) (x46 : Int32) (x47 : Value) (x48 : Int32) (x49 : Nat) (x50 : ClassId) (x51 : Nat → Int32) : va_W := [(x0, .inr (10, [x1, .ref x2, x3, .ref x4, x5, x6, x7, x8, .ref x9, .ref x10, x11, x12, x13, x14, x15, x16, x17, x18, .int x19])), (x20, .inr (1, [.ref x21, x22, x23, x24])), (x25, .inr (1, [.ref x26, x27, .ref x28, .ref x29])), (x30, .inl (x31, 64, .inl x32)), (x33, .inl (x34, 64, .inl x35)), (x36, .inr (2, [x37, x38, x39, x40, x41, .ref x42, x43, x44, x45, .int x46, x47, .int x48])), (x49, .inl (x50, 6, .inl x51))]
def wd00_23 (x0 : Nat) (x1 : Value) (x2 x3 x4 x5 x6 x7 : Int32) : va_W := [(x0, .inr (8, [x1, .int x2, .int x3, .int x4, .int x5, .int x6, .int x7]))]
def wd00_24 (x0 x1 : Nat) (x2 x3 x4 x5 x6 x7 x8 x9 x10 x11 x12 x13 x14 x15 x16 x17 x18 : Value) (x19 : Int32) (x20 : Nat) (x21 : Value) (x22 x23 x24 x25 x26 x27 : Int32) : va_W := [(x0, .inr (10, [.ref x1, x2, x3, x4, x5, x6, x7, x8, x9, x10, x11, x12, x13, x14, x15, x16, x17, x18, .int x19])), (x20, .inr (8, [x21, .int x22, .int x23, .int x24, .int x25, .int x26, .int x27]))]
def wd00_25 (x0 x1 : Nat) (x2 x3 x4 x5 x6 x7 x8 x9 x10 x11 x12 x13 x14 x15 x16 x17 x18 : Value) (x19 : Int32) : va_W := [(x0, .inr (10, [.ref x1, x2, x3, x4, x5, x6, x7, x8, x9, x10, x11, x12, x13, x14, x15, x16, x17, x18, .int x19]))]
def wd00_26 (x0 x1 : Nat) (x2 : Int32) (x3 : Nat) (x4 : ClassId) (x5 : Nat → Int32) : va_W := [(x0, .inr (0, [.ref x1, .int x2])), (x3, .inl (x4, 8, .inl x5))]
def wd00_27 (x0 : Nat) (x1 x2 x3 x4 x5 : Value) (x6 : Int32) (x7 : Value) : va_W := [(x0, .inr (8, [x1, x2, x3, x4, x5, .int x6, x7]))]
def wd00_28 (x0 x1 : Nat) (x2 x3 : Int32) (x4 x5 x6 x7 : Value) (x8 : Nat) (x9 : ClassId) (x10 : Nat → Int32) : va_W := [(x0, .inr (8, [.ref x1, .int x2, .int x3, x4, x5, x6, x7])), (x8, .inl (x9, 600, .inl x10))]
def wd00_29 (x0 x1 : Nat) (x2 : Int32) (x3 x4 x5 x6 x7 : Value) (x8 : Nat) (x9 : ClassId) (x10 : Nat → Int32) : va_W := [(x0, .inr (8, [.ref x1, .int x2, x3, x4, x5, x6, x7])), (x8, .inl (x9, 600, .inl x10))]
def wd00_30 (x0 : Nat) (x1 x2 x3 x4 x5 : Value) (x6 x7 : Int32) : va_W := [(x0, .inr (8, [x1, x2, x3, x4, x5, .int x6, .int x7]))]
def wd00_31 (x0 x1 : Nat) (x2 x3 x4 : Int32) (x5 : Value) (x6 x7 : Int32) (x8 : Nat) (x9 : ClassId) (x10 : Nat → Int32) : va_W := [(x0, .inr (8, [.ref x1, .int x2, .int x3, .int x4, x5, .int x6, .int x7])), (x8, .inl (x9, 600, .inl x10))]
def wd00_32 (x0 x1 : Nat) (x2 x3 x4 : Int32) (x5 : Value) (x6 x7 : Int32) : va_W := [(x0, .inr (8, [.ref x1, .int x2, .int x3, .int x4, x5, .int x6, .int x7]))]
def wd00_33 (x0 : Nat) (x1 : ClassId) (x2 : Nat → Int32) : va_W := [(x0, .inl (x1, 600, .inl x2))]
def wd00_34 (x0 x1 : Nat) (x2 : Value) (x3 : Nat) (x4 : ClassId) (x5 : Nat → Int32) : va_W := [(x0, .inr (0, [.ref x1, x2])), (x3, .inl (x4, 8, .inl x5))]
def wd00_35 (x0 : Nat) (x1 x2 x3 : Value) (x4 : Int32) (x5 : Value) (x6 x7 : Int32) : va_W := [(x0, .inr (8, [x1, x2, x3, .int x4, x5, .int x6, .int x7]))]
def wd00_36 (x0 x1 : Nat) (x2 x3 x4 : Int32) (x5 : Value) (x6 : Int32) (x7 : Value) (x8 : Nat) (x9 : ClassId) (x10 : Nat → Int32) : va_W := [(x0, .inr (8, [.ref x1, .int x2, .int x3, .int x4, x5, .int x6, x7])), (x8, .inl (x9, 600, .inl x10))]
def wd00_37 (x0 x1 : Nat) (x2 x3 x4 : Int32) (x5 : Value) (x6 : Int32) (x7 : Value) : va_W := [(x0, .inr (8, [.ref x1, .int x2, .int x3, .int x4, x5, .int x6, x7]))]
def wd00_38 (x0 x1 : Nat) (x2 x3 : Int32) (x4 x5 : Value) (x6 x7 : Int32) (x8 : Nat) (x9 : ClassId) (x10 : Nat → Int32) : va_W := [(x0, .inr (8, [.ref x1, .int x2, .int x3, x4, x5, .int x6, .int x7])), (x8, .inl (x9, 600, .inl x10))]
def wd00_39 (x0 x1 : Nat) (x2 x3 : Int32) (x4 x5 : Value) (x6 x7 : Int32) : va_W := [(x0, .inr (8, [.ref x1, .int x2, .int x3, x4, x5, .int x6, .int x7]))]
def wd00_40 (x0 x1 : Nat) (x2 : Int32) (x3 x4 : Nat) (x5 x6 x7 : Int32) (x8 : Value) (x9 x10 : Int32) (x11 : Nat) (x12 : ClassId) (x13 : Nat → Int32) (x14 : Nat) (x15 : ClassId) (x16 : Nat → Int32) : va_W := [(x0, .inr (0, [.ref x1, .int x2])), (x3, .inr (8, [.ref x4, .int x5, .int x6, .int x7, x8, .int x9, .int x10])), (x11, .inl (x12, 600, .inl x13)), (x14, .inl (x15, 8, .inl x16))]
def wd00_41 (x0 x1 : Nat) (x2 : Int32) (x3 : Nat) (x4 : ClassId) (x5 : Nat → Int32) (x6 : Nat) (x7 : ClassId) (x8 : Nat → Int32) : va_W := [(x0, .inr (0, [.ref x1, .int x2])), (x3, .inl (x4, 600, .inl x5)), (x6, .inl (x7, 8, .inl x8))]
def wd00_42 (x0 x1 : Nat) (x2 : Int32) (x3 : Nat) (x4 : ClassId) (x5 : Nat → Int32) (x6 x7 : Nat) (x8 x9 x10 : Int32) (x11 : Value) (x12 x13 : Int32) (x14 : Nat) (x15 : ClassId) (x16 : Nat → Int32) : va_W := [(x0, .inr (0, [.ref x1, .int x2])), (x3, .inl (x4, 8, .inl x5)), (x6, .inr (8, [.ref x7, .int x8, .int x9, .int x10, x11, .int x12, .int x13])), (x14, .inl (x15, 600, .inl x16))]
def wd00_43 (x0 x1 x2 : Nat) (x3 x4 x5 : Value) (x6 x7 : Nat) (x8 x9 x10 x11 x12 x13 x14 x15 x16 x17 x18 : Value) (x19 : Int32) (x20 x21 : Nat) (x22 x23 x24 x25 x26 x27 : Int32) (x28 : Nat) (x29 x30 x31 x32 x33 x34 x35 x36 : Value) (x37 : Int32) (x38 x39 x40 : Value) (x41 x42 : Nat) (x43 : Int32) (x44 : Nat) (x45 : ClassId) (x46 : Nat → Int32) (x47 : Nat) (x48 : ClassId) (x49 : Nat → Int32) : va_W := [(x0, .inr (10, [.ref x1, .ref x2, x3, x4, x5, .ref x6, .ref x7, x8, x9, x10, x11, x12, x13, x14, x15, x16, x17, x18, .int x19])), (x20, .inr (8, [.ref x21, .int x22, .int x23, .int x24, .int x25, .int x26, .int x27])), (x28, .inr (2, [x29, x30, x31, x32, x33, x34, x35, x36, .int x37, x38, x39, x40])), (x41, .inr (0, [.ref x42, .int x43])), (x44, .inl (x45, 8, .inl x46)), (x47, .inl (x48, 600, .inl x49))]
def wd00_44 (x0 x1 x2 : Nat) (x3 x4 x5 x6 x7 x8 x9 x10 x11 x12 x13 x14 x15 x16 x17 x18 : Value) (x19 : Int32) (x20 x21 : Nat) (x22 x23 x24 x25 x26 x27 : Int32) (x28 : Nat) (x29 x30 x31 x32 x33 x34 x35 x36 : Value) (x37 : Int32) (x38 x39 x40 : Value) (x41 x42 : Nat) (x43 : Int32) (x44 : Nat) (x45 : ClassId) (x46 : Nat → Int32) (x47 : Nat) (x48 : ClassId) (x49 : Nat → Int32) : va_W := [(x0, .inr (10, [.ref x1, .ref x2, x3, x4, x5, x6, x7, x8, x9, x10, x11, x12, x13, x14, x15, x16, x17, x18, .int x19])), (x20, .inr (8, [.ref x21, .int x22, .int x23, .int x24, .int x25, .int x26, .int x27])), (x28, .inr (2, [x29, x30, x31, x32, x33, x34, x35, x36, .int x37, x38, x39, x40])), (x41, .inr (0, [.ref x42, .int x43])), (x44, .inl (x45, 8, .inl x46)), (x47, .inl (x48, 600, .inl x49))]
def wd00_45 (x0 x1 x2 : Nat) (x3 x4 x5 : Value) (x6 x7 : Nat) (x8 x9 x10 x11 x12 x13 x14 x15 x16 x17 x18 : Value) (x19 : Int32) (x20 x21 : Nat) (x22 x23 x24 x25 x26 x27 : Int32) : va_W := [(x0, .inr (10, [.ref x1, .ref x2, x3, x4, x5, .ref x6, .ref x7, x8, x9, x10, x11, x12, x13, x14, x15, x16, x17, x18, .int x19])), (x20, .inr (8, [.ref x21, .int x22, .int x23, .int x24, .int x25, .int x26, .int x27]))]
def wd00_46 (x0 : Nat) (x1 x2 x3 x4 x5 x6 x7 x8 : Value) (x9 : Int32) (x10 x11 x12 : Value) (x13 x14 : Nat) (x15 : Int32) (x16 : Nat) (x17 : ClassId) (x18 : Nat → Int32) (x19 : Nat) (x20 : ClassId) (x21 : Nat → Int32) : va_W := [(x0, .inr (2, [x1, x2, x3, x4, x5, x6, x7, x8, .int x9, x10, x11, x12])), (x13, .inr (0, [.ref x14, .int x15])), (x16, .inl (x17, 8, .inl x18)), (x19, .inl (x20, 600, .inl x21))]
def wd00_47 (x0 x1 : Nat) (x2 : Int32) (x3 : Nat) (x4 : ClassId) (x5 : Nat → Int32) (x6 x7 : Nat) (x8 x9 x10 x11 x12 x13 : Int32) (x14 : Nat) (x15 : ClassId) (x16 : Nat → Int32) : va_W := [(x0, .inr (0, [.ref x1, .int x2])), (x3, .inl (x4, 8, .inl x5)), (x6, .inr (8, [.ref x7, .int x8, .int x9, .int x10, .int x11, .int x12, .int x13])), (x14, .inl (x15, 600, .inl x16))]
def wd00_48 (x0 x1 : Nat) (x2 x3 x4 x5 x6 x7 : Int32) : va_W := [(x0, .inr (8, [.ref x1, .int x2, .int x3, .int x4, .int x5, .int x6, .int x7]))]
def wd00_49 (x0 x1 x2 : Nat) (x3 x4 x5 : Value) (x6 x7 : Nat) (x8 x9 x10 x11 x12 x13 x14 x15 x16 x17 x18 : Value) (x19 : Int32) (x20 x21 : Nat) (x22 x23 x24 x25 x26 x27 : Int32) (x28 : Nat) (x29 x30 x31 x32 x33 x34 x35 x36 : Value) (x37 : Int32) (x38 x39 x40 : Value) (x41 x42 : Nat) (x43 : Int32) (x44 : Nat) (x45 : ClassId) (x46 : Nat → Int32) (x47 : Nat) (x48 : ClassId) (x49 : Nat → Int32) (x50 : Nat) (x51 : ClassId) (x52 : Nat) (x53 : Nat → Int64) : va_W := [(x0, .inr (10, [.ref x1, .ref x2, x3, x4, x5, .ref x6, .ref x7, x8, x9, x10, x11, x12, x13, x14, x15, x16, x17, x18, .int x19])), (x20, .inr (8, [.ref x21, .int x22, .int x23, .int x24, .int x25, .int x26, .int x27])), (x28, .inr (2, [x29, x30, x31, x32, x33, x34, x35, x36, .int x37, x38, x39, x40])), (x41, .inr (0, [.ref x42, .int x43])), (x44, .inl (x45, 8, .inl x46)), (x47, .inl (x48, 600, .inl x49)), (x50, .inl (x51, x52, .inr (.inl x53)))]
def wd00_50 (x0 x1 x2 : Nat) (x3 x4 x5 x6 x7 x8 x9 x10 x11 x12 x13 x14 x15 x16 x17 x18 : Value) (x19 : Int32) (x20 x21 : Nat) (x22 x23 x24 x25 x26 x27 : Int32) (x28 : Nat) (x29 x30 x31 x32 x33 x34 x35 x36 : Value) (x37 : Int32) (x38 x39 x40 : Value) (x41 x42 : Nat) (x43 : Int32) (x44 : Nat) (x45 : ClassId) (x46 : Nat → Int32) (x47 : Nat) (x48 : ClassId) (x49 : Nat → Int32) (x50 : Nat) (x51 : ClassId) (x52 : Nat) (x53 : Nat → Int64) : va_W := [(x0, .inr (10, [.ref x1, .ref x2, x3, x4, x5, x6, x7, x8, x9, x10, x11, x12, x13, x14, x15, x16, x17, x18, .int x19])), (x20, .inr (8, [.ref x21, .int x22, .int x23, .int x24, .int x25, .int x26, .int x27])), (x28, .inr (2, [x29, x30, x31, x32, x33, x34, x35, x36, .int x37, x38, x39, x40])), (x41, .inr (0, [.ref x42, .int x43])), (x44, .inl (x45, 8, .inl x46)), (x47, .inl (x48, 600, .inl x49)), (x50, .inl (x51, x52, .inr (.inl x53)))]
def wd00_51 (x0 : Nat) (x1 : Value) (x2 : Nat) (x3 x4 x5 x6 x7 x8 x9 x10 x11 x12 x13 x14 x15 x16 x17 : Value) (x18 : Int32) (x19 : Value) (x20 : Nat) (x21 x22 x23 x24 x25 x26 x27 x28 x29 : Value) (x30 : Int32) (x31 x32 : Value) : va_W := [(x0, .inr (10, [x1, .ref x2, x3, x4, x5, x6, x7, x8, x9, x10, x11, x12, x13, x14, x15, x16, x17, .int x18, x19])), (x20, .inr (2, [x21, x22, x23, x24, x25, x26, x27, x28, x29, .int x30, x31, x32]))]
theorem uw_J6_bitCount_0f7a4_k265 : (.constant RJ6 265 (1431655765) : Cond) ∈ wsJ6_bitCount_0f7a4 := mbJ6_bitCount_0f7a4 1805 (by decide +kernel)
theorem uw_J6_bitCount_0f7a4_k266 : (.constant RJ6 266 (858993459) : Cond) ∈ wsJ6_bitCount_0f7a4 := mbJ6_bitCount_0f7a4 1806 (by decide +kernel)
theorem uw_J6_bitCount_0f7a4_k267 : (.constant RJ6 267 (252645135) : Cond) ∈ wsJ6_bitCount_0f7a4 := mbJ6_bitCount_0f7a4 1807 (by decide +kernel)
set_option maxHeartbeats 4000000 in
set_option maxRecDepth 100000 in
theorem ck_J6_bitCount_0f7a4 (l : Launch) (dC : Nat → ClassId) (dI : Nat → Nat → Nat) (cyB cyI cyJ cyP : ClassId) (sz : Nat)    (p0 : Int32) {Q : Int32 → Prop} (hw : wq_J6_bitCount_0f7a4   p0 Q) : Met l yJ6_bitCount_0f7a4 wsJ6_bitCount_0f7a4 ({ frames := 0, cells := 0, slots := 0, locals := 0 }) (va_Pc [.int p0] (cPc (dC, dI) (kT cyB cyI cyJ cyP) [] sz)) (va_Qi (fun (r : Int32) (_ : Unit) => Q r ) (cB (dC, dI) (kT cyB cyI cyJ cyP) (va_A [] sz) (fun u : Unit => ([] : va_W))) (va_A [] sz)) 0 0 (va_A [] sz) := by
  refine Met.ofW (cc := cJ6_bitCount_0f7a4) (maxL := 1) (ret := (some .int)) (by decide) rfl ?_
  intro p e s m args below meth c s₁ B hml hv
  obtain ⟨rfl, hsz, hP, hK, hD0, hNw⟩ := hv
  have hx := B.exec
  have hb := B.bytes
  have hr := B.returns
  have hts := atoms_spec (ws := wsJ6_bitCount_0f7a4) B.pre
  have hown : s.vm.findClass RJ6 = some m.cls := findClass_of_methodNamed B.named
  have hlocks := B.notSynchronized
  subst hsz
  have hD := hD0.self (sz := s.heap.size)
  generalize hAe : va_A [] s.heap.size = A at hD ⊢
  have hA : ∀ q : Nat, s.heap.size ≤ q → A q := fun q h => by rw [← hAe]; exact Or.inr h
  have hS : va_S A s.heap s.heap [] := va_S.rf
  have hP : va_P (dC, dI) vwCl [] s.heap := hP
  have hl := lv_entry ([.int p0]) (n := 1) (Nat.le_of_ble_eq_true rfl)
  rw [lg_entry_eq]
  generalize (lg_sl ([.int p0]) ++ List.replicate (1 - (lg_sl ([.int p0])).length) Slot.unset).toArray = ls at hl ⊢
  have hl : lv_has ls 1 [(0, .int p0)] := hl
  have C0 : cfx p s m _ meth c cJ6_bitCount_0f7a4 (some .int) wsJ6_bitCount_0f7a4 RJ6 1 A (dC, dI) (kT cyB cyI cyJ cyP) := ⟨hx, hb, hr, hts, hown, hlocks, hml, hA, hK, hNw⟩
  clear hAe
  obtain ⟨H, hH⟩ : ∃ H, H = s.heap := ⟨_, rfl⟩
  rw [← hH] at hP ⊢
  have hS : va_S A s.heap H [] := by rw [hH]; exact va_S.rf
  have hS := hS
  refine lv_iload_n hx hb (dt_of tkJ6_bitCount_0f7a4_k0 0 rfl) rfl (lv_at hl 0 rfl) ?_
  refine lv_iload_n hx hb (dt_of tkJ6_bitCount_0f7a4_k0 1 rfl) rfl (lv_at hl 0 rfl) ?_
  refine lv_iconst (v := 1) hx hb (dt_of tkJ6_bitCount_0f7a4_k0 2 rfl) (by decide) ?_
  refine lv_iushr (v := (p0.toUInt32 >>> ((1 : Int32).toUInt32 &&& Int32.toUInt32 31)).toInt32) hx hb (dt_of tkJ6_bitCount_0f7a4_k0 3 rfl) rfl ?_
  refine lv_topi (fun x1 ex1 => ?_)
  have hw := hw x1 ex1
  refine lv_ldcw (v := 1431655765) hx hb hown (hts _ uw_J6_bitCount_0f7a4_k265) (dt_of tkJ6_bitCount_0f7a4_k0 4 rfl) ?_
  refine lv_iand hx hb (dt_of tkJ6_bitCount_0f7a4_k0 5 rfl) ?_
  refine lv_isub hx hb (dt_of tkJ6_bitCount_0f7a4_k0 6 rfl) ?_
  refine lv_topi (fun x2 ex2 => ?_)
  have hw := hw x2 ex2
  refine lv_istore_n (lv' := [(0, .int x2)]) hx hb (dt_of tkJ6_bitCount_0f7a4_k0 7 rfl) rfl hl (by decide) rfl (fun ls hl => ?_)
  refine lv_iload_n hx hb (dt_of tkJ6_bitCount_0f7a4_k0 8 rfl) rfl (lv_at hl 0 rfl) ?_
  refine lv_ldcw (v := 858993459) hx hb hown (hts _ uw_J6_bitCount_0f7a4_k266) (dt_of tkJ6_bitCount_0f7a4_k0 9 rfl) ?_
  refine lv_iand hx hb (dt_of tkJ6_bitCount_0f7a4_k0 10 rfl) ?_
  refine lv_iload_n hx hb (dt_of tkJ6_bitCount_0f7a4_k0 11 rfl) rfl (lv_at hl 0 rfl) ?_
  refine lv_iconst (v := 2) hx hb (dt_of tkJ6_bitCount_0f7a4_k0 12 rfl) (by decide) ?_
  refine lv_iushr (v := (x2.toUInt32 >>> ((2 : Int32).toUInt32 &&& Int32.toUInt32 31)).toInt32) hx hb (dt_of tkJ6_bitCount_0f7a4_k0 13 rfl) rfl ?_
  refine lv_topi (fun x3 ex3 => ?_)
  have hw := hw x3 ex3
  refine lv_ldcw (v := 858993459) hx hb hown (hts _ uw_J6_bitCount_0f7a4_k266) (dt_of tkJ6_bitCount_0f7a4_k0 14 rfl) ?_
  refine lv_iand hx hb (dt_of tkJ6_bitCount_0f7a4_k0 15 rfl) ?_
  refine lv_iadd hx hb (dt_of tkJ6_bitCount_0f7a4_k22 0 rfl) ?_
  refine lv_topi (fun x4 ex4 => ?_)
  have hw := hw x4 ex4
  refine lv_istore_n (lv' := [(0, .int x4)]) hx hb (dt_of tkJ6_bitCount_0f7a4_k22 1 rfl) rfl hl (by decide) rfl (fun ls hl => ?_)
  refine lv_iload_n hx hb (dt_of tkJ6_bitCount_0f7a4_k22 2 rfl) rfl (lv_at hl 0 rfl) ?_
  refine lv_iload_n hx hb (dt_of tkJ6_bitCount_0f7a4_k22 3 rfl) rfl (lv_at hl 0 rfl) ?_
  refine lv_iconst (v := 4) hx hb (dt_of tkJ6_bitCount_0f7a4_k22 4 rfl) (by decide) ?_
  refine lv_iushr (v := (x4.toUInt32 >>> ((4 : Int32).toUInt32 &&& Int32.toUInt32 31)).toInt32) hx hb (dt_of tkJ6_bitCount_0f7a4_k22 5 rfl) rfl ?_
  refine lv_topi (fun x5 ex5 => ?_)
  have hw := hw x5 ex5
  refine lv_iadd hx hb (dt_of tkJ6_bitCount_0f7a4_k22 6 rfl) ?_
  refine lv_ldcw (v := 252645135) hx hb hown (hts _ uw_J6_bitCount_0f7a4_k267) (dt_of tkJ6_bitCount_0f7a4_k22 7 rfl) ?_
  refine lv_iand hx hb (dt_of tkJ6_bitCount_0f7a4_k22 8 rfl) ?_
  refine lv_topi (fun x6 ex6 => ?_)
  have hw := hw x6 ex6
  refine lv_istore_n (lv' := [(0, .int x6)]) hx hb (dt_of tkJ6_bitCount_0f7a4_k22 9 rfl) rfl hl (by decide) rfl (fun ls hl => ?_)
  refine lv_iload_n hx hb (dt_of tkJ6_bitCount_0f7a4_k22 10 rfl) rfl (lv_at hl 0 rfl) ?_
  refine lv_iload_n hx hb (dt_of tkJ6_bitCount_0f7a4_k22 11 rfl) rfl (lv_at hl 0 rfl) ?_
  refine lv_bipush (v := 8) hx hb (dt_of tkJ6_bitCount_0f7a4_k22 12 rfl) (by decide) ?_
  refine lv_iushr (v := (x6.toUInt32 >>> ((8 : Int32).toUInt32 &&& Int32.toUInt32 31)).toInt32) hx hb (dt_of tkJ6_bitCount_0f7a4_k22 13 rfl) rfl ?_
  refine lv_topi (fun x7 ex7 => ?_)
  have hw := hw x7 ex7
  refine lv_iadd hx hb (dt_of tkJ6_bitCount_0f7a4_k22 14 rfl) ?_
  refine lv_topi (fun x8 ex8 => ?_)
  have hw := hw x8 ex8
  refine lv_istore_n (lv' := [(0, .int x8)]) hx hb (dt_of tkJ6_bitCount_0f7a4_k22 15 rfl) rfl hl (by decide) rfl (fun ls hl => ?_)
  refine lv_iload_n hx hb (dt_of tkJ6_bitCount_0f7a4_k41 0 rfl) rfl (lv_at hl 0 rfl) ?_
  refine lv_iload_n hx hb (dt_of tkJ6_bitCount_0f7a4_k41 1 rfl) rfl (lv_at hl 0 rfl) ?_
  refine lv_bipush (v := 16) hx hb (dt_of tkJ6_bitCount_0f7a4_k41 2 rfl) (by decide) ?_
  refine lv_iushr (v := (x8.toUInt32 >>> ((16 : Int32).toUInt32 &&& Int32.toUInt32 31)).toInt32) hx hb (dt_of tkJ6_bitCount_0f7a4_k41 3 rfl) rfl ?_
  refine lv_topi (fun x9 ex9 => ?_)
  have hw := hw x9 ex9
  refine lv_iadd hx hb (dt_of tkJ6_bitCount_0f7a4_k41 4 rfl) ?_
  refine lv_topi (fun x10 ex10 => ?_)
  have hw := hw x10 ex10
  refine lv_istore_n (lv' := [(0, .int x10)]) hx hb (dt_of tkJ6_bitCount_0f7a4_k41 5 rfl) rfl hl (by decide) rfl (fun ls hl => ?_)
  refine lv_iload_n hx hb (dt_of tkJ6_bitCount_0f7a4_k41 6 rfl) rfl (lv_at hl 0 rfl) ?_
  refine lv_bipush (v := 63) hx hb (dt_of tkJ6_bitCount_0f7a4_k41 7 rfl) (by decide) ?_
  refine lv_iand hx hb (dt_of tkJ6_bitCount_0f7a4_k41 8 rfl) ?_
  exact ((W.iret (v := (x10 &&& 63)) hx hb hr (fun t ht hW => ⟨⟨(x10 &&& 63), (), rfl, hw, by rw [ht]; exact hP, va_K.moved hW.alike hK, hD⟩, hS.F ht⟩) hS.2.2 (dt_of tkJ6_bitCount_0f7a4_k41 9 rfl)))
set_option maxHeartbeats 4000000 in
set_option maxRecDepth 100000 in
theorem ck_X10_within (l : Launch) (dC : Nat → ClassId) (dI : Nat → Nat → Nat) (cyB cyI cyJ cyP : ClassId) (sz : Nat)    (p0 p1 p2 : Int32) {Q : Int32 → Prop} (hw : wq_X10_within   p0 p1 p2 Q) : Met l yX10_within wsX10_within ({ frames := 0, cells := 0, slots := 0, locals := 0 }) (va_Pc [.int p0, .int p1, .int p2] (cPc (dC, dI) (kT cyB cyI cyJ cyP) [] sz)) (va_Qi (fun (r : Int32) (_ : Unit) => Q r ) (cB (dC, dI) (kT cyB cyI cyJ cyP) (va_A [] sz) (fun u : Unit => ([] : va_W))) (va_A [] sz)) 0 0 (va_A [] sz) := by
  refine Met.ofW (cc := cX10_within) (maxL := 3) (ret := (some .boolean)) (by decide) rfl ?_
  intro p e s m args below meth c s₁ B hml hv
  obtain ⟨rfl, hsz, hP, hK, hD0, hNw⟩ := hv
  have hx := B.exec
  have hb := B.bytes
  have hr := B.returns
  have hts := atoms_spec (ws := wsX10_within) B.pre
  have hown : s.vm.findClass RX10 = some m.cls := findClass_of_methodNamed B.named
  have hlocks := B.notSynchronized
  subst hsz
  have hD := hD0.self (sz := s.heap.size)
  generalize hAe : va_A [] s.heap.size = A at hD ⊢
  have hA : ∀ q : Nat, s.heap.size ≤ q → A q := fun q h => by rw [← hAe]; exact Or.inr h
  have hS : va_S A s.heap s.heap [] := va_S.rf
  have hP : va_P (dC, dI) vwCl [] s.heap := hP
  have hl := lv_entry ([.int p0, .int p1, .int p2]) (n := 3) (Nat.le_of_ble_eq_true rfl)
  rw [lg_entry_eq]
  generalize (lg_sl ([.int p0, .int p1, .int p2]) ++ List.replicate (3 - (lg_sl ([.int p0, .int p1, .int p2])).length) Slot.unset).toArray = ls at hl ⊢
  have hl : lv_has ls 3 [(0, .int p0), (1, .int p1), (2, .int p2)] := hl
  have C0 : cfx p s m _ meth c cX10_within (some .boolean) wsX10_within RX10 3 A (dC, dI) (kT cyB cyI cyJ cyP) := ⟨hx, hb, hr, hts, hown, hlocks, hml, hA, hK, hNw⟩
  clear hAe
  obtain ⟨H, hH⟩ : ∃ H, H = s.heap := ⟨_, rfl⟩
  rw [← hH] at hP ⊢
  have hS : va_S A s.heap H [] := by rw [hH]; exact va_S.rf
  have hS := hS
  refine lv_iload_n hx hb (dt_of tkX10_within_k0 0 rfl) rfl (lv_at hl 0 rfl) ?_
  refine lv_iload_n hx hb (dt_of tkX10_within_k0 1 rfl) rfl (lv_at hl 1 rfl) ?_
  refine lv_icmp_lt (tgt := 14) hx hb (dt_of tkX10_within_k0 2 rfl) (by decide) (fun c1 => ?_) (fun c1 => ?_)
  · have hw := hw.1 c1
    refine lv_iconst (v := 0) hx hb (dt_of tkX10_within_k0 8 rfl) (by decide) ?_
    exact ((W.zret (v := 0) hx hb hr rfl (fun t ht hW => ⟨⟨0, (), rfl, hw, by rw [ht]; exact hP, va_K.moved hW.alike hK, hD⟩, hS.F ht⟩) hS.2.2 (dt_of tkX10_within_k0 9 rfl)))
  · have hw := hw.2 c1
    refine lv_iload_n hx hb (dt_of tkX10_within_k0 3 rfl) rfl (lv_at hl 0 rfl) ?_
    refine lv_iload_n hx hb (dt_of tkX10_within_k0 4 rfl) rfl (lv_at hl 2 rfl) ?_
    refine lv_icmp_gt (tgt := 14) hx hb (dt_of tkX10_within_k0 5 rfl) (by decide) (fun c2 => ?_) (fun c2 => ?_)
    · have hw := hw.1 c2
      refine lv_iconst (v := 0) hx hb (dt_of tkX10_within_k0 8 rfl) (by decide) ?_
      exact ((W.zret (v := 0) hx hb hr rfl (fun t ht hW => ⟨⟨0, (), rfl, hw, by rw [ht]; exact hP, va_K.moved hW.alike hK, hD⟩, hS.F ht⟩) hS.2.2 (dt_of tkX10_within_k0 9 rfl)))
    · have hw := hw.2 c2
      refine lv_iconst (v := 1) hx hb (dt_of tkX10_within_k0 6 rfl) (by decide) ?_
      refine lv_goto (tgt := 15) hx hb (dt_of tkX10_within_k0 7 rfl) (by decide) ?_
      exact ((W.zret (v := 1) hx hb hr rfl (fun t ht hW => ⟨⟨1, (), rfl, hw, by rw [ht]; exact hP, va_K.moved hW.alike hK, hD⟩, hS.F ht⟩) hS.2.2 (dt_of tkX10_within_k0 9 rfl)))
theorem ub_X10_needLegal_409 : ∀ w ∈ (vx_atS RX10 409 "java/lang/IllegalArgumentException" ["java/lang/RuntimeException", "java/lang/Exception"]).filter (fun w => !goodWord w), w ∈ xB := by decide +kernel
theorem ug_X10_needLegal_409 : ∀ w ∈ Cond.classLink RX10 405 "java/lang/IllegalArgumentException" :: Cond.initialized "java/lang/IllegalArgumentException" :: vx_atS RX10 409 "java/lang/IllegalArgumentException" ["java/lang/RuntimeException", "java/lang/Exception"], vx_ot w = true := by decide +kernel
theorem uh_X10_needLegal_409 : ∀ w ∈ (vx_atS RX10 409 "java/lang/IllegalArgumentException" ["java/lang/RuntimeException", "java/lang/Exception"]).filter goodWord, w ∈ wsX10_needLegal := by decide +kernel
theorem ui_X10_needLegal_X10 : ∀ w ∈ u_ws RX10 TX10 19, w ∈ wsX10_needLegal := uiM mbX10_needLegal euX10 (by decide +kernel)
theorem uw_X10_needLegal_cl405 : (.classLink RX10 405 "java/lang/IllegalArgumentException" : Cond) ∈ wsX10_needLegal := mbX10_needLegal 704 (by decide +kernel)
theorem uw_X10_needLegal_f395 : (.fieldLink RX10 395 "MarchHares" "callsIllegal" "I" : Cond) ∈ wsX10_needLegal := mbX10_needLegal 706 (by decide +kernel)
theorem uw_X10_needLegal_ini405 : (.initialized "java/lang/IllegalArgumentException" : Cond) ∈ wsX10_needLegal := mbX10_needLegal 705 (by decide +kernel)
set_option maxHeartbeats 4000000 in
set_option maxRecDepth 100000 in
theorem ck_X10_needLegal (l : Launch) (dC : Nat → ClassId) (dI : Nat → Nat → Nat) (cyB cyI cyJ cyP : ClassId) (a0 sz : Nat) (jaK jfP ja1 jcp jbc jbV ja3 jbH ja2 jbO jaq jac jbI jbl jbn jba jaa jbA : Value)  (jbz p1 : Int32) {E : String → Int32 → Prop} {Q : Int32 → Prop} (hw : wq_X10_needLegal  jbz p1 E Q) : vx_Met l yX10_needLegal wsX10_needLegal ({ frames := 6, cells := 1, slots := 6, locals := 120 }) (va_Pc [.ref a0, .int p1] (cPx l (dC, dI) (kT cyB cyI cyJ cyP) (wd00_0 a0 jaK jfP ja1 jcp jbc jbV ja3 jbH ja2 jbO jaq jac jbI jbl jbn jba jaa jbA jbz) sz)) (va_Qv (fun (u : Int32) => Q u) (cB (dC, dI) (kT cyB cyI cyJ cyP) (va_A (wd00_0 a0 jaK jfP ja1 jcp jbc jbV ja3 jbH ja2 jbO jaq jac jbI jbl jbn jba jaa jbA jbz) sz) (fun u : Int32 => ((wd00_0 a0 jaK jfP ja1 jcp jbc jbV ja3 jbH ja2 jbO jaq jac jbI jbl jbn jba jaa jbA u) : va_W))) (va_A (wd00_0 a0 jaK jfP ja1 jcp jbc jbV ja3 jbH ja2 jbO jaq jac jbI jbl jbn jba jaa jbA jbz) sz)) (vx_X (fun _ => True) (fun (en : String) (u : Int32) (t : State) => E en u ∧ cB (dC, dI) (kT cyB cyI cyJ cyP) (va_A (wd00_0 a0 jaK jfP ja1 jcp jbc jbV ja3 jbH ja2 jbO jaq jac jbI jbl jbn jba jaa jbA jbz) sz) (fun u : Int32 => ((wd00_0 a0 jaK jfP ja1 jcp jbc jbV ja3 jbH ja2 jbO jaq jac jbI jbl jbn jba jaa jbA u) : va_W)) u t) (va_A (wd00_0 a0 jaK jfP ja1 jcp jbc jbV ja3 jbH ja2 jbO jaq jac jbI jbl jbn jba jaa jbA jbz) sz)) 1 6 (va_A (wd00_0 a0 jaK jfP ja1 jcp jbc jbV ja3 jbH ja2 jbO jaq jac jbI jbl jbn jba jaa jbA jbz) sz) := by
  refine vx_ofW (cc := cX10_needLegal) (maxL := 2) (ret := none) (by decide) rfl ?_
  intro p e s m args below meth c s₁ B hml hnt hv
  obtain ⟨rfl, hsz, hP, hK, hD0, hNw, hXl, hXu, hXn, hXt⟩ := hv
  have hx := B.exec
  have hb := B.bytes
  have hr := B.returns
  have hts := atoms_spec (ws := wsX10_needLegal) B.pre
  have hown : s.vm.findClass RX10 = some m.cls := findClass_of_methodNamed B.named
  have hlocks := B.notSynchronized
  subst hsz
  have hD := hD0.self (sz := s.heap.size)
  generalize hAe : va_A (wd00_0 a0 jaK jfP ja1 jcp jbc jbV ja3 jbH ja2 jbO jaq jac jbI jbl jbn jba jaa jbA jbz) s.heap.size = A at hD hXu hXn ⊢
  have hA : ∀ q : Nat, s.heap.size ≤ q → A q := fun q h => by rw [← hAe]; exact Or.inr h
  have hS : va_S A s.heap s.heap [] := va_S.rf
  have hP : va_P (dC, dI) vwCl (wd00_0 a0 jaK jfP ja1 jcp jbc jbV ja3 jbH ja2 jbO jaq jac jbI jbl jbn jba jaa jbA jbz) s.heap := hP
  have hl := lv_entry ([.ref a0, .int p1]) (n := 2) (Nat.le_of_ble_eq_true rfl)
  rw [lg_entry_eq]
  generalize (lg_sl ([.ref a0, .int p1]) ++ List.replicate (2 - (lg_sl ([.ref a0, .int p1])).length) Slot.unset).toArray = ls at hl ⊢
  have hl : lv_has ls 2 [(0, .ref a0), (1, .int p1)] := hl
  have hY : cfY l s A := ⟨hXl, hXu, hXn, hXt⟩
  have hXs : cfX l s c A := ⟨hnt, hY⟩
  have C0 : cfx p s m _ meth c cX10_needLegal none wsX10_needLegal RX10 2 A (dC, dI) (kT cyB cyI cyJ cyP) ∧ cfX l s c A := ⟨⟨hx, hb, hr, hts, hown, hlocks, hml, hA, hK, hNw⟩, hXs⟩
  clear hAe
  obtain ⟨H, hH⟩ : ∃ H, H = s.heap := ⟨_, rfl⟩
  rw [← hH] at hP ⊢
  have hS : va_S A s.heap H [] := by rw [hH]; exact va_S.rf
  have hS := hS
  refine lv_iload_n hx hb (dt_of tkX10_needLegal_k0 0 rfl) rfl (lv_at hl 1 rfl) ?_
  refine lv_if_ne (tgt := 25) hx hb (dt_of tkX10_needLegal_k0 1 rfl) (by decide) (fun c1 => ?_) (fun c1 => ?_)
  · have hw := hw.1 c1
    exact vx_ret (W.widen (k := 1) (n := 6) (Nat.le_of_ble_eq_true rfl) (Nat.le_of_ble_eq_true rfl) (W.vret hx hb hr (fun t ht hW => ⟨⟨(jbz), rfl, hw, by rw [ht]; exact hP, va_K.moved hW.alike hK, hD⟩, hS.F ht⟩) hS.2.2 (dt_of tkX10_needLegal_k0 13 rfl)))
  · have hw := hw.2 c1
    refine lv_aload_n hx hb (dt_of tkX10_needLegal_k0 2 rfl) rfl (lv_at hl 0 rfl) ?_
    refine lv_dup hx hb (dt_of tkX10_needLegal_k0 3 rfl) rfl ?_
    refine va_get (D := (dC, dI)) (ci := 10) (v := .int jbz) (C := RX10) (T := TX10) (N := 19) hx hb hts ui_X10_needLegal_X10 hown hK hP 0 rfl rfl 18 (by decide) (hts _ uw_X10_needLegal_f395) (fun _ h9 => h9) rfl (dt_of tkX10_needLegal_k0 4 rfl) ?_
    refine lv_iconst (v := 1) hx hb (dt_of tkX10_needLegal_k0 5 rfl) (by decide) ?_
    refine lv_iadd hx hb (dt_of tkX10_needLegal_k0 6 rfl) ?_
    refine lv_topi (fun x2 ex2 => ?_)
    have hw := hw x2 ex2
    refine va_put (D := (dC, dI)) (ci := 10) (v := .int x2) (ty := .int) (C := RX10) (T := TX10) (N := 19) hx hb hts ui_X10_needLegal_X10 tyX10 tyX10_ok nmX10 hown hK hP hD hS 0 rfl rfl 18 (by decide) (hts _ uw_X10_needLegal_f395) (fun _ h9 => h9) rfl (by decide +kernel) rfl rfl (Nat.le_of_ble_eq_true rfl) (dt_of tkX10_needLegal_k0 7 rfl) (fun H locs hP hD hS => ?_)
    have hP : va_P (dC, dI) vwCl (wd00_0 a0 jaK jfP ja1 jcp jbc jbV ja3 jbH ja2 jbO jaq jac jbI jbl jbn jba jaa jbA x2) H := hP
    have hD : va_D A (wd00_0 a0 jaK jfP ja1 jcp jbc jbV ja3 jbH ja2 jbO jaq jac jbI jbl jbn jba jaa jbA x2) := hD
    obtain ⟨sa9, hsa9⟩ := hY.2.2.2.2.1 _ (List.mem_of_getElem? (i := 3) rfl)
    exact vx_throwSW hx hb hY.1 (own := RX10) (cls := "java/lang/IllegalArgumentException") (names := ["java/lang/RuntimeException", "java/lang/Exception"]) (ik := 405) (is := 407) (ic := 409) hown (by decide +kernel) (by decide +kernel) (hts _ uw_X10_needLegal_cl405) (hts _ uw_X10_needLegal_ini405) hsa9 (vx_hat (fun w hw9 => hts w (uh_X10_needLegal_409 w hw9)) ub_X10_needLegal_409 (xB_use hY.2.2.2.1)) ug_X10_needLegal_409 hY.2.1 hY.2.2.1 hS (by rw [hml]; exact hl.1) (dt_of tkX10_needLegal_k0 8 rfl) (dt_of tkX10_needLegal_k0 9 rfl) (dt_of tkX10_needLegal_k0 10 rfl) (dt_of tkX10_needLegal_k0 11 rfl) (dt_of tkX10_needLegal_k0 12 rfl) (fun x hx9 => (hXs.1 x hx9).elim) (Nat.le_of_ble_eq_true rfl) (Nat.le_of_ble_eq_true rfl) (Nat.le_of_ble_eq_true rfl) (Nat.le_of_ble_eq_true rfl) hlocks (fun t hal hsz9 hq9 => ⟨(x2), trivial, ⟨hw, hP.kept (fun k q hk9 => hq9 _ ((hP k q hk9).lt)), va_K.moved hal hK, hD⟩, xt_frame hS hsz9 hq9⟩) hS.2.2 (Nat.le_of_ble_eq_true rfl) (Nat.le_of_ble_eq_true rfl)
set_option maxHeartbeats 4000000 in
set_option maxRecDepth 100000 in
theorem ck_X10_needWithin (l : Launch) (dC : Nat → ClassId) (dI : Nat → Nat → Nat) (cyB cyI cyJ cyP : ClassId) (a0 sz : Nat) (jaK jfP ja1 jcp jbc jbV ja3 jbH ja2 jbO jaq jac jbI jbl jbn jba jaa jbA : Value)  (jbz p1 p2 p3 : Int32) {E : String → Int32 → Prop} {Q : Int32 → Prop} (hw : wq_X10_needWithin  jbz p1 p2 p3 E Q) : vx_Met l yX10_needWithin wsX10_needWithin ({ frames := 7, cells := 1, slots := 6, locals := 141 }) (va_Pc [.ref a0, .int p1, .int p2, .int p3] (cPx l (dC, dI) (kT cyB cyI cyJ cyP) (wd00_0 a0 jaK jfP ja1 jcp jbc jbV ja3 jbH ja2 jbO jaq jac jbI jbl jbn jba jaa jbA jbz) sz)) (va_Qv (fun (u : Int32) => Q u) (cB (dC, dI) (kT cyB cyI cyJ cyP) (va_A (wd00_0 a0 jaK jfP ja1 jcp jbc jbV ja3 jbH ja2 jbO jaq jac jbI jbl jbn jba jaa jbA jbz) sz) (fun u : Int32 => ((wd00_0 a0 jaK jfP ja1 jcp jbc jbV ja3 jbH ja2 jbO jaq jac jbI jbl jbn jba jaa jbA u) : va_W))) (va_A (wd00_0 a0 jaK jfP ja1 jcp jbc jbV ja3 jbH ja2 jbO jaq jac jbI jbl jbn jba jaa jbA jbz) sz)) (vx_X (fun _ => True) (fun (en : String) (u : Int32) (t : State) => E en u ∧ cB (dC, dI) (kT cyB cyI cyJ cyP) (va_A (wd00_0 a0 jaK jfP ja1 jcp jbc jbV ja3 jbH ja2 jbO jaq jac jbI jbl jbn jba jaa jbA jbz) sz) (fun u : Int32 => ((wd00_0 a0 jaK jfP ja1 jcp jbc jbV ja3 jbH ja2 jbO jaq jac jbI jbl jbn jba jaa jbA u) : va_W)) u t) (va_A (wd00_0 a0 jaK jfP ja1 jcp jbc jbV ja3 jbH ja2 jbO jaq jac jbI jbl jbn jba jaa jbA jbz) sz)) 1 6 (va_A (wd00_0 a0 jaK jfP ja1 jcp jbc jbV ja3 jbH ja2 jbO jaq jac jbI jbl jbn jba jaa jbA jbz) sz) := by
  refine vx_ofW (cc := cX10_needWithin) (maxL := 4) (ret := none) (by decide) rfl ?_
  intro p e s m args below meth c s₁ B hml hnt hv
  obtain ⟨rfl, hsz, hP, hK, hD0, hNw, hXl, hXu, hXn, hXt⟩ := hv
  have hx := B.exec
  have hb := B.bytes
  have hr := B.returns
  have hts := atoms_spec (ws := wsX10_needWithin) B.pre
  have hown : s.vm.findClass RX10 = some m.cls := findClass_of_methodNamed B.named
  have hlocks := B.notSynchronized
  subst hsz
  have hD := hD0.self (sz := s.heap.size)
  generalize hAe : va_A (wd00_0 a0 jaK jfP ja1 jcp jbc jbV ja3 jbH ja2 jbO jaq jac jbI jbl jbn jba jaa jbA jbz) s.heap.size = A at hD hXu hXn ⊢
  have hA : ∀ q : Nat, s.heap.size ≤ q → A q := fun q h => by rw [← hAe]; exact Or.inr h
  have hS : va_S A s.heap s.heap [] := va_S.rf
  have hP : va_P (dC, dI) vwCl (wd00_0 a0 jaK jfP ja1 jcp jbc jbV ja3 jbH ja2 jbO jaq jac jbI jbl jbn jba jaa jbA jbz) s.heap := hP
  have hl := lv_entry ([.ref a0, .int p1, .int p2, .int p3]) (n := 4) (Nat.le_of_ble_eq_true rfl)
  rw [lg_entry_eq]
  generalize (lg_sl ([.ref a0, .int p1, .int p2, .int p3]) ++ List.replicate (4 - (lg_sl ([.ref a0, .int p1, .int p2, .int p3])).length) Slot.unset).toArray = ls at hl ⊢
  have hl : lv_has ls 4 [(0, .ref a0), (1, .int p1), (2, .int p2), (3, .int p3)] := hl
  have hY : cfY l s A := ⟨hXl, hXu, hXn, hXt⟩
  have hXs : cfX l s c A := ⟨hnt, hY⟩
  have C0 : cfx p s m _ meth c cX10_needWithin none wsX10_needWithin RX10 4 A (dC, dI) (kT cyB cyI cyJ cyP) ∧ cfX l s c A := ⟨⟨hx, hb, hr, hts, hown, hlocks, hml, hA, hK, hNw⟩, hXs⟩
  clear hAe
  obtain ⟨H, hH⟩ : ∃ H, H = s.heap := ⟨_, rfl⟩
  rw [← hH] at hP ⊢
  have hS : va_S A s.heap H [] := by rw [hH]; exact va_S.rf
  have hS := hS
  refine lv_aload_n hx hb (dt_of tkX10_needWithin_k0 0 rfl) rfl (lv_at hl 0 rfl) ?_
  refine lv_iload_n hx hb (dt_of tkX10_needWithin_k0 1 rfl) rfl (lv_at hl 1 rfl) ?_
  refine lv_iload_n hx hb (dt_of tkX10_needWithin_k0 2 rfl) rfl (lv_at hl 2 rfl) ?_
  refine lv_iload_n hx hb (dt_of tkX10_needWithin_k0 3 rfl) rfl (lv_at hl 3 rfl) ?_
  obtain ⟨hCc, hPc, hDc, hFc⟩ := va_pick (ws' := []) hP hD hS hA [] (by decide +kernel) rfl
  refine va_calli (va_runS (As := [.int p1, .int p2, .int p3]) (rest := [.ref a0]) ⟨hx, hb, hml, hown, hts⟩ (ck_X10_within l dC dI cyB cyI cyJ cyP  H.size    p1 p2 p3 hw) (va_cwS 3 hts gX10_needWithin_X10_within rfl rfl rfl (by decide +kernel) ⟨Nat.le_of_ble_eq_true rfl, Nat.le_of_ble_eq_true rfl⟩) ⟨cPc_blind, cPc_pre hPc hK hDc hNw⟩ rfl rfl hl.1 rfl (lv_room (Nat.le_of_ble_eq_true rfl)) (dt_of tkX10_needWithin_k0 4 rfl) ⟨Nat.le_of_ble_eq_true rfl, Nat.le_of_ble_eq_true rfl⟩) hS (fun q _ h => hFc q h) hFc (fun r1 u t H1 locs ht hvm hw hB hz1 hk1 hS => ?_)
  obtain ⟨hP1, hK1, hD1⟩ := hB
  rw [ht] at hP1
  obtain ⟨hP, hD⟩ := va_joinI (wr := (wd00_0 a0 jaK jfP ja1 jcp jbc jbV ja3 jbH ja2 jbO jaq jac jbI jbl jbn jba jaa jbA jbz)) (w1 := []) (wn := (wd00_0 a0 jaK jfP ja1 jcp jbc jbV ja3 jbH ja2 jbO jaq jac jbI jbl jbn jba jaa jbA jbz)) hP hD [] [0] hCc rfl (by decide +kernel) (by decide +kernel) rfl hk1 hFc hP1 hD1
  generalize H1 = H at hP hS ⊢
  obtain ⟨hCc, hPc, hDc, hFc⟩ := va_pick (ws' := (wd00_0 a0 jaK jfP ja1 jcp jbc jbV ja3 jbH ja2 jbO jaq jac jbI jbl jbn jba jaa jbA jbz)) hP hD hS hA [0] (by decide +kernel) rfl
  refine vx_callv (vx_runV (As := [.int r1]) (rest := []) ⟨hx, hb, hml, hown, hts⟩ (ck_X10_needLegal l dC dI cyB cyI cyJ cyP a0 H.size (jaK) (jfP) (ja1) (jcp) (jbc) (jbV) (ja3) (jbH) (ja2) (jbO) (jaq) (jac) (jbI) (jbl) (jbn) (jba) (jaa) (jbA)  jbz r1 hw) (cwV 1 hts gX10_needWithin_X10_needLegal rfl rfl rfl (by decide +kernel) ⟨Nat.le_of_ble_eq_true rfl, Nat.le_of_ble_eq_true rfl⟩) ⟨cPx_blind, va_recv (q := (RX10, TX10, 19)) hK hPc (ci := 10) (q0 := 0) rfl rfl, cPx_pre hPc hK hDc hNw hY hS hFc⟩ rfl rfl hl.1 rfl (lv_room (Nat.le_of_ble_eq_true rfl)) (dt_of tkX10_needWithin_k0 5 rfl) ⟨Nat.le_of_ble_eq_true rfl, Nat.le_of_ble_eq_true rfl⟩) hS (fun q _ h => hFc q h) hFc (fun q _ h => hFc q h) (fun en ce q9 u t H1 locs ht hvm hpx hB hz1 hk1 hS hc9 hv9 hcl9 => ?_) (fun u t H1 locs ht hvm hw hB hz1 hk1 hS => ?_)
  · obtain ⟨x2, rfl⟩ : ∃ z, z = u := ⟨_, rfl⟩
    obtain ⟨hw, hP1, hK1, hD1⟩ := hB
    rw [ht] at hP1
    obtain ⟨hP, hD⟩ := va_joinI (wr := []) (w1 := (wd00_0 a0 jaK jfP ja1 jcp jbc jbV ja3 jbH ja2 jbO jaq jac jbI jbl jbn jba jaa jbA x2)) (wn := (wd00_0 a0 jaK jfP ja1 jcp jbc jbV ja3 jbH ja2 jbO jaq jac jbI jbl jbn jba jaa jbA x2)) hP hD [0] [] hCc rfl (by decide +kernel) (by decide +kernel) rfl hk1 hFc hP1 hD1
    generalize H1 = H at hP hS hc9 ⊢
    exact vx_out (fun x hx9 => (hXs.1 x hx9).elim) hlocks hc9 hv9 hcl9 (fun t2 ht2 hal2 => ⟨(x2), trivial, ⟨hw, by rw [ht2]; exact hP, va_K.moved hal2 hK, hD⟩, hS.F ht2⟩) hS.2.2 (Nat.le_of_ble_eq_true rfl) (Nat.le_of_ble_eq_true rfl)
  obtain ⟨x2, rfl⟩ : ∃ z, z = u := ⟨_, rfl⟩
  obtain ⟨hP1, hK1, hD1⟩ := hB
  rw [ht] at hP1
  obtain ⟨hP, hD⟩ := va_joinI (wr := []) (w1 := (wd00_0 a0 jaK jfP ja1 jcp jbc jbV ja3 jbH ja2 jbO jaq jac jbI jbl jbn jba jaa jbA x2)) (wn := (wd00_0 a0 jaK jfP ja1 jcp jbc jbV ja3 jbH ja2 jbO jaq jac jbI jbl jbn jba jaa jbA x2)) hP hD [0] [] hCc rfl (by decide +kernel) (by decide +kernel) rfl hk1 hFc hP1 hD1
  generalize H1 = H at hP hS ⊢
  exact vx_ret (W.widen (k := 1) (n := 6) (Nat.le_of_ble_eq_true rfl) (Nat.le_of_ble_eq_true rfl) (W.vret hx hb hr (fun t ht hW => ⟨⟨(x2), rfl, hw, by rw [ht]; exact hP, va_K.moved hW.alike hK, hD⟩, hS.F ht⟩) hS.2.2 (dt_of tkX10_needWithin_k0 6 rfl)))
theorem ui_X1_copyFrom_X1 : ∀ w ∈ u_ws RX1 TX1 4, w ∈ wsX1_copyFrom := uiM mbX1_copyFrom euX1 (by decide +kernel)
theorem uw_X1_copyFrom_aci : (.initialized "java/lang/System" : Cond) ∈ wsX1_copyFrom := mbX1_copyFrom 331 (by decide +kernel)
theorem uw_X1_copyFrom_acn : (.native arraycopyName : Cond) ∈ wsX1_copyFrom := mbX1_copyFrom 329 (by decide +kernel)
theorem uw_X1_copyFrom_acs : (.static arraycopyName : Cond) ∈ wsX1_copyFrom := mbX1_copyFrom 330 (by decide +kernel)
theorem uw_X1_copyFrom_f13 : (.fieldLink RX1 13 "MarchHares$Days" "row" "[I" : Cond) ∈ wsX1_copyFrom := mbX1_copyFrom 276 (by decide +kernel)
theorem uw_X1_copyFrom_f24 : (.fieldLink RX1 24 "MarchHares$Days" "down" "LMarchHares$Down;" : Cond) ∈ wsX1_copyFrom := mbX1_copyFrom 322 (by decide +kernel)
theorem uw_X1_copyFrom_f28 : (.fieldLink RX1 28 "MarchHares$Days" "law" "LMarchHares$Law;" : Cond) ∈ wsX1_copyFrom := mbX1_copyFrom 323 (by decide +kernel)
theorem uw_X1_copyFrom_m45 : (.methodLink RX1 45 arraycopyName : Cond) ∈ wsX1_copyFrom := mbX1_copyFrom 328 (by decide +kernel)
set_option maxHeartbeats 4000000 in
set_option maxRecDepth 100000 in
theorem ck_X1_copyFrom (l : Launch) (dC : Nat → ClassId) (dI : Nat → Nat → Nat) (cyB cyI cyJ cyP : ClassId) (a0 a1 jjN jlL jjO jch sz : Nat) (jcD jpf jo9 jjP : Value) (jkO jdE : Nat → Int32)  {Q : (Nat → Int32) → Prop} (hw : wq_X1_copyFrom jkO jdE  Q) : Met l yX1_copyFrom wsX1_copyFrom ({ frames := 1, cells := 0, slots := 0, locals := 40 }) (va_Pc [.ref a0, .ref a1] (cPc (dC, dI) (kT cyB cyI cyJ cyP) (wd00_1 a0 jch jcD jpf jo9 a1 jjO jjP jjN jlL jjO cyI jkO jch cyI jdE) sz)) (va_Qv (fun (u : (Nat → Int32)) => Q u) (cB (dC, dI) (kT cyB cyI cyJ cyP) (va_A (wd00_1 a0 jch jcD jpf jo9 a1 jjO jjP jjN jlL jjO cyI jkO jch cyI jdE) sz) (fun u : (Nat → Int32) => ((wd00_2 a0 jch jcD jjN jlL a1 jjO jjP jjN jlL jjO cyI jkO jch cyI u) : va_W))) (va_A (wd00_1 a0 jch jcD jpf jo9 a1 jjO jjP jjN jlL jjO cyI jkO jch cyI jdE) sz)) 0 0 (va_A (wd00_1 a0 jch jcD jpf jo9 a1 jjO jjP jjN jlL jjO cyI jkO jch cyI jdE) sz) := by
  refine Met.ofW (cc := cX1_copyFrom) (maxL := 2) (ret := none) (by decide) rfl ?_
  intro p e s m args below meth c s₁ B hml hv
  obtain ⟨rfl, hsz, hP, hK, hD0, hNw⟩ := hv
  have hx := B.exec
  have hb := B.bytes
  have hr := B.returns
  have hts := atoms_spec (ws := wsX1_copyFrom) B.pre
  have hown : s.vm.findClass RX1 = some m.cls := findClass_of_methodNamed B.named
  have hlocks := B.notSynchronized
  subst hsz
  have hD := hD0.self (sz := s.heap.size)
  generalize hAe : va_A (wd00_1 a0 jch jcD jpf jo9 a1 jjO jjP jjN jlL jjO cyI jkO jch cyI jdE) s.heap.size = A at hD ⊢
  have hA : ∀ q : Nat, s.heap.size ≤ q → A q := fun q h => by rw [← hAe]; exact Or.inr h
  have hS : va_S A s.heap s.heap [] := va_S.rf
  have hP : va_P (dC, dI) vwCl (wd00_1 a0 jch jcD jpf jo9 a1 jjO jjP jjN jlL jjO cyI jkO jch cyI jdE) s.heap := hP
  have hl := lv_entry ([.ref a0, .ref a1]) (n := 2) (Nat.le_of_ble_eq_true rfl)
  rw [lg_entry_eq]
  generalize (lg_sl ([.ref a0, .ref a1]) ++ List.replicate (2 - (lg_sl ([.ref a0, .ref a1])).length) Slot.unset).toArray = ls at hl ⊢
  have hl : lv_has ls 2 [(0, .ref a0), (1, .ref a1)] := hl
  have C0 : cfx p s m _ meth c cX1_copyFrom none wsX1_copyFrom RX1 2 A (dC, dI) (kT cyB cyI cyJ cyP) := ⟨hx, hb, hr, hts, hown, hlocks, hml, hA, hK, hNw⟩
  clear hAe
  obtain ⟨H, hH⟩ : ∃ H, H = s.heap := ⟨_, rfl⟩
  rw [← hH] at hP ⊢
  have hS : va_S A s.heap H [] := by rw [hH]; exact va_S.rf
  have hS := hS
  refine lv_aload_n hx hb (dt_of tkX1_copyFrom_k0 0 rfl) rfl (lv_at hl 0 rfl) ?_
  refine lv_aload_n hx hb (dt_of tkX1_copyFrom_k0 1 rfl) rfl (lv_at hl 1 rfl) ?_
  refine va_get (D := (dC, dI)) (ci := 1) (v := .ref jjN) (C := RX1) (T := TX1) (N := 4) hx hb hts ui_X1_copyFrom_X1 hown hK hP 1 rfl rfl 2 (by decide) (hts _ uw_X1_copyFrom_f24) (fun _ h9 => h9) rfl (dt_of tkX1_copyFrom_k0 2 rfl) ?_
  refine va_put (D := (dC, dI)) (ci := 1) (v := .ref jjN) (ty := .object "MarchHares$Down") (C := RX1) (T := TX1) (N := 4) hx hb hts ui_X1_copyFrom_X1 tyX1 tyX1_ok nmX1 hown hK hP hD hS 0 rfl rfl 2 (by decide) (hts _ uw_X1_copyFrom_f24) (fun _ h9 => h9) rfl (by decide +kernel) rfl rfl (Nat.le_of_ble_eq_true rfl) (dt_of tkX1_copyFrom_k0 3 rfl) (fun H locs hP hD hS => ?_)
  have hP : va_P (dC, dI) vwCl (wd00_3 a0 jch jcD jjN jo9 a1 jjO jjP jjN jlL jjO cyI jkO jch cyI jdE) H := hP
  have hD : va_D A (wd00_3 a0 jch jcD jjN jo9 a1 jjO jjP jjN jlL jjO cyI jkO jch cyI jdE) := hD
  refine lv_aload_n hx hb (dt_of tkX1_copyFrom_k0 4 rfl) rfl (lv_at hl 0 rfl) ?_
  refine lv_aload_n hx hb (dt_of tkX1_copyFrom_k0 5 rfl) rfl (lv_at hl 1 rfl) ?_
  refine va_get (D := (dC, dI)) (ci := 1) (v := .ref jlL) (C := RX1) (T := TX1) (N := 4) hx hb hts ui_X1_copyFrom_X1 hown hK hP 1 rfl rfl 3 (by decide) (hts _ uw_X1_copyFrom_f28) (fun _ h9 => h9) rfl (dt_of tkX1_copyFrom_k0 6 rfl) ?_
  refine va_put (D := (dC, dI)) (ci := 1) (v := .ref jlL) (ty := .object "MarchHares$Law") (C := RX1) (T := TX1) (N := 4) hx hb hts ui_X1_copyFrom_X1 tyX1 tyX1_ok nmX1 hown hK hP hD hS 0 rfl rfl 3 (by decide) (hts _ uw_X1_copyFrom_f28) (fun _ h9 => h9) rfl (by decide +kernel) rfl rfl (Nat.le_of_ble_eq_true rfl) (dt_of tkX1_copyFrom_k0 7 rfl) (fun H locs hP hD hS => ?_)
  have hP : va_P (dC, dI) vwCl (wd00_2 a0 jch jcD jjN jlL a1 jjO jjP jjN jlL jjO cyI jkO jch cyI jdE) H := hP
  have hD : va_D A (wd00_2 a0 jch jcD jjN jlL a1 jjO jjP jjN jlL jjO cyI jkO jch cyI jdE) := hD
  refine lv_aload_n hx hb (dt_of tkX1_copyFrom_k0 8 rfl) rfl (lv_at hl 1 rfl) ?_
  refine va_get (D := (dC, dI)) (ci := 1) (v := .ref jjO) (C := RX1) (T := TX1) (N := 4) hx hb hts ui_X1_copyFrom_X1 hown hK hP 1 rfl rfl 0 (by decide) (hts _ uw_X1_copyFrom_f13) (fun _ h9 => h9) rfl (dt_of tkX1_copyFrom_k0 9 rfl) ?_
  refine lv_iconst (v := 0) hx hb (dt_of tkX1_copyFrom_k0 10 rfl) (by decide) ?_
  refine lv_aload_n hx hb (dt_of tkX1_copyFrom_k0 11 rfl) rfl (lv_at hl 0 rfl) ?_
  refine va_get (D := (dC, dI)) (ci := 1) (v := .ref jch) (C := RX1) (T := TX1) (N := 4) hx hb hts ui_X1_copyFrom_X1 hown hK hP 0 rfl rfl 0 (by decide) (hts _ uw_X1_copyFrom_f13) (fun _ h9 => h9) rfl (dt_of tkX1_copyFrom_k0 12 rfl) ?_
  refine lv_iconst (v := 0) hx hb (dt_of tkX1_copyFrom_k0 13 rfl) (by decide) ?_
  refine lv_bipush (v := 64) hx hb (dt_of tkX1_copyFrom_k0 14 rfl) (by decide) ?_
  refine va_copyi hx hb (by rw [hml]; exact hl.1.symm) hown (hts _ uw_X1_copyFrom_m45) (hts _ uw_X1_copyFrom_acn) (hts _ uw_X1_copyFrom_acs) (hts _ uw_X1_copyFrom_aci) hK hP hD hS 2 3 1 1 rfl rfl rfl rfl rfl (by decide) (by decide) (by decide) (by decide) (by decide) (fun _ _ => rfl) (Nat.le_of_ble_eq_true rfl) (Nat.le_of_ble_eq_true rfl) (dt_of tkX1_copyFrom_k0 15 rfl) (fun H locs hP hD hS => ?_)
  obtain ⟨f1, ef1⟩ : ∃ y : Nat → Int32, y = va_cpy jkO jdE (0 : Int32).toNatClampNeg (0 : Int32).toNatClampNeg (64 : Int32).toNatClampNeg := ⟨_, rfl⟩
  have hw := hw f1 ef1
  have hP : va_P (dC, dI) vwCl (wd00_2 a0 jch jcD jjN jlL a1 jjO jjP jjN jlL jjO cyI jkO jch cyI f1) H := by rw [ef1]; exact hP
  have hD : va_D A (wd00_2 a0 jch jcD jjN jlL a1 jjO jjP jjN jlL jjO cyI jkO jch cyI f1) := by rw [ef1]; exact hD
  exact ((W.vret hx hb hr (fun t ht hW => ⟨⟨(f1), rfl, hw, by rw [ht]; exact hP, va_K.moved hW.alike hK, hD⟩, hS.F ht⟩) hS.2.2 (dt_of tkX1_copyFrom_k31 0 rfl)))
set_option maxHeartbeats 4000000 in
set_option maxRecDepth 100000 in
theorem ck_X10_holds (l : Launch) (dC : Nat → ClassId) (dI : Nat → Nat → Nat) (cyB cyI cyJ cyP : ClassId) (sz : Nat)    (p0 p1 : Int32) {Q : Int32 → Prop} (hw : wq_X10_holds   p0 p1 Q) : Met l yX10_holds wsX10_holds ({ frames := 0, cells := 0, slots := 0, locals := 0 }) (va_Pc [.int p0, .int p1] (cPc (dC, dI) (kT cyB cyI cyJ cyP) [] sz)) (va_Qi (fun (r : Int32) (_ : Unit) => Q r ) (cB (dC, dI) (kT cyB cyI cyJ cyP) (va_A [] sz) (fun u : Unit => ([] : va_W))) (va_A [] sz)) 0 0 (va_A [] sz) := by
  refine Met.ofW (cc := cX10_holds) (maxL := 2) (ret := (some .boolean)) (by decide) rfl ?_
  intro p e s m args below meth c s₁ B hml hv
  obtain ⟨rfl, hsz, hP, hK, hD0, hNw⟩ := hv
  have hx := B.exec
  have hb := B.bytes
  have hr := B.returns
  have hts := atoms_spec (ws := wsX10_holds) B.pre
  have hown : s.vm.findClass RX10 = some m.cls := findClass_of_methodNamed B.named
  have hlocks := B.notSynchronized
  subst hsz
  have hD := hD0.self (sz := s.heap.size)
  generalize hAe : va_A [] s.heap.size = A at hD ⊢
  have hA : ∀ q : Nat, s.heap.size ≤ q → A q := fun q h => by rw [← hAe]; exact Or.inr h
  have hS : va_S A s.heap s.heap [] := va_S.rf
  have hP : va_P (dC, dI) vwCl [] s.heap := hP
  have hl := lv_entry ([.int p0, .int p1]) (n := 2) (Nat.le_of_ble_eq_true rfl)
  rw [lg_entry_eq]
  generalize (lg_sl ([.int p0, .int p1]) ++ List.replicate (2 - (lg_sl ([.int p0, .int p1])).length) Slot.unset).toArray = ls at hl ⊢
  have hl : lv_has ls 2 [(0, .int p0), (1, .int p1)] := hl
  have C0 : cfx p s m _ meth c cX10_holds (some .boolean) wsX10_holds RX10 2 A (dC, dI) (kT cyB cyI cyJ cyP) := ⟨hx, hb, hr, hts, hown, hlocks, hml, hA, hK, hNw⟩
  clear hAe
  obtain ⟨H, hH⟩ : ∃ H, H = s.heap := ⟨_, rfl⟩
  rw [← hH] at hP ⊢
  have hS : va_S A s.heap H [] := by rw [hH]; exact va_S.rf
  have hS := hS
  refine lv_iload_n hx hb (dt_of tkX10_holds_k0 0 rfl) rfl (lv_at hl 0 rfl) ?_
  refine lv_iload_n hx hb (dt_of tkX10_holds_k0 1 rfl) rfl (lv_at hl 1 rfl) ?_
  refine lv_ishr hx hb (dt_of tkX10_holds_k0 2 rfl) ?_
  refine lv_iconst (v := 1) hx hb (dt_of tkX10_holds_k0 3 rfl) (by decide) ?_
  refine lv_iand hx hb (dt_of tkX10_holds_k0 4 rfl) ?_
  refine lv_iconst (v := 1) hx hb (dt_of tkX10_holds_k0 5 rfl) (by decide) ?_
  refine lv_icmp_ne (tgt := 13) hx hb (dt_of tkX10_holds_k0 6 rfl) (by decide) (fun c1 => ?_) (fun c1 => ?_)
  · have hw := hw.1 c1
    refine lv_iconst (v := 0) hx hb (dt_of tkX10_holds_k0 9 rfl) (by decide) ?_
    exact ((W.zret (v := 0) hx hb hr rfl (fun t ht hW => ⟨⟨0, (), rfl, hw, by rw [ht]; exact hP, va_K.moved hW.alike hK, hD⟩, hS.F ht⟩) hS.2.2 (dt_of tkX10_holds_k0 10 rfl)))
  · have hw := hw.2 c1
    refine lv_iconst (v := 1) hx hb (dt_of tkX10_holds_k0 7 rfl) (by decide) ?_
    refine lv_goto (tgt := 14) hx hb (dt_of tkX10_holds_k0 8 rfl) (by decide) ?_
    exact ((W.zret (v := 1) hx hb hr rfl (fun t ht hW => ⟨⟨1, (), rfl, hw, by rw [ht]; exact hP, va_K.moved hW.alike hK, hD⟩, hS.F ht⟩) hS.2.2 (dt_of tkX10_holds_k0 10 rfl)))
theorem ui_X1_isCaught_X1 : ∀ w ∈ u_ws RX1 TX1 4, w ∈ wsX1_isCaught := uiM mbX1_isCaught euX1 (by decide +kernel)
theorem uw_X1_isCaught_f13 : (.fieldLink RX1 13 "MarchHares$Days" "row" "[I" : Cond) ∈ wsX1_isCaught := mbX1_isCaught 276 (by decide +kernel)
set_option maxHeartbeats 4000000 in
set_option maxRecDepth 100000 in
theorem ck_X1_isCaught (l : Launch) (dC : Nat → ClassId) (dI : Nat → Nat → Nat) (cyB cyI cyJ cyP : ClassId) (a0 jch sz : Nat) (jcD ji6 jhx : Value) (jdE : Nat → Int32)  (p1 : Int32) {Q : Int32 → Prop} (hw : wq_X1_isCaught jdE  p1 Q) : Met l yX1_isCaught wsX1_isCaught ({ frames := 0, cells := 0, slots := 0, locals := 0 }) (va_Pc [.ref a0, .int p1] (cPc (dC, dI) (kT cyB cyI cyJ cyP) (wd00_4 a0 jch jcD ji6 jhx jch cyI jdE) sz)) (va_Qi (fun (r : Int32) (_ : Unit) => Q r ) (cB (dC, dI) (kT cyB cyI cyJ cyP) (va_A (wd00_4 a0 jch jcD ji6 jhx jch cyI jdE) sz) (fun u : Unit => ((wd00_4 a0 jch jcD ji6 jhx jch cyI jdE) : va_W))) (va_A (wd00_4 a0 jch jcD ji6 jhx jch cyI jdE) sz)) 0 0 (va_A (wd00_4 a0 jch jcD ji6 jhx jch cyI jdE) sz) := by
  refine Met.ofW (cc := cX1_isCaught) (maxL := 2) (ret := (some .boolean)) (by decide) rfl ?_
  intro p e s m args below meth c s₁ B hml hv
  obtain ⟨rfl, hsz, hP, hK, hD0, hNw⟩ := hv
  have hx := B.exec
  have hb := B.bytes
  have hr := B.returns
  have hts := atoms_spec (ws := wsX1_isCaught) B.pre
  have hown : s.vm.findClass RX1 = some m.cls := findClass_of_methodNamed B.named
  have hlocks := B.notSynchronized
  subst hsz
  have hD := hD0.self (sz := s.heap.size)
  generalize hAe : va_A (wd00_4 a0 jch jcD ji6 jhx jch cyI jdE) s.heap.size = A at hD ⊢
  have hA : ∀ q : Nat, s.heap.size ≤ q → A q := fun q h => by rw [← hAe]; exact Or.inr h
  have hS : va_S A s.heap s.heap [] := va_S.rf
  have hP : va_P (dC, dI) vwCl (wd00_4 a0 jch jcD ji6 jhx jch cyI jdE) s.heap := hP
  have hl := lv_entry ([.ref a0, .int p1]) (n := 2) (Nat.le_of_ble_eq_true rfl)
  rw [lg_entry_eq]
  generalize (lg_sl ([.ref a0, .int p1]) ++ List.replicate (2 - (lg_sl ([.ref a0, .int p1])).length) Slot.unset).toArray = ls at hl ⊢
  have hl : lv_has ls 2 [(0, .ref a0), (1, .int p1)] := hl
  have C0 : cfx p s m _ meth c cX1_isCaught (some .boolean) wsX1_isCaught RX1 2 A (dC, dI) (kT cyB cyI cyJ cyP) := ⟨hx, hb, hr, hts, hown, hlocks, hml, hA, hK, hNw⟩
  clear hAe
  obtain ⟨H, hH⟩ : ∃ H, H = s.heap := ⟨_, rfl⟩
  rw [← hH] at hP ⊢
  have hS : va_S A s.heap H [] := by rw [hH]; exact va_S.rf
  have hS := hS
  refine lv_aload_n hx hb (dt_of tkX1_isCaught_k0 0 rfl) rfl (lv_at hl 0 rfl) ?_
  refine va_get (D := (dC, dI)) (ci := 1) (v := .ref jch) (C := RX1) (T := TX1) (N := 4) hx hb hts ui_X1_isCaught_X1 hown hK hP 0 rfl rfl 0 (by decide) (hts _ uw_X1_isCaught_f13) (fun _ h9 => h9) rfl (dt_of tkX1_isCaught_k0 1 rfl) ?_
  refine lv_iconst (v := 2) hx hb (dt_of tkX1_isCaught_k0 2 rfl) (by decide) ?_
  refine va_iald hx hb hK hP 1 1 rfl rfl (vin (by decide)) (dt_of tkX1_isCaught_k0 3 rfl) ?_
  refine lv_topi (fun x1 ex1 => ?_)
  have hw := hw x1 ex1
  refine lv_iload_n hx hb (dt_of tkX1_isCaught_k0 4 rfl) rfl (lv_at hl 1 rfl) ?_
  refine lv_ishr hx hb (dt_of tkX1_isCaught_k0 5 rfl) ?_
  refine lv_iconst (v := 1) hx hb (dt_of tkX1_isCaught_k0 6 rfl) (by decide) ?_
  refine lv_iand hx hb (dt_of tkX1_isCaught_k0 7 rfl) ?_
  refine lv_iconst (v := 1) hx hb (dt_of tkX1_isCaught_k0 8 rfl) (by decide) ?_
  refine lv_icmp_ne (tgt := 18) hx hb (dt_of tkX1_isCaught_k0 9 rfl) (by decide) (fun c2 => ?_) (fun c2 => ?_)
  · have hw := hw.1 c2
    refine lv_iconst (v := 0) hx hb (dt_of tkX1_isCaught_k0 12 rfl) (by decide) ?_
    exact ((W.zret (v := 0) hx hb hr rfl (fun t ht hW => ⟨⟨0, (), rfl, hw, by rw [ht]; exact hP, va_K.moved hW.alike hK, hD⟩, hS.F ht⟩) hS.2.2 (dt_of tkX1_isCaught_k0 13 rfl)))
  · have hw := hw.2 c2
    refine lv_iconst (v := 1) hx hb (dt_of tkX1_isCaught_k0 10 rfl) (by decide) ?_
    refine lv_goto (tgt := 19) hx hb (dt_of tkX1_isCaught_k0 11 rfl) (by decide) ?_
    exact ((W.zret (v := 1) hx hb hr rfl (fun t ht hW => ⟨⟨1, (), rfl, hw, by rw [ht]; exact hP, va_K.moved hW.alike hK, hD⟩, hS.F ht⟩) hS.2.2 (dt_of tkX1_isCaught_k0 13 rfl)))
theorem ui_X1_sits_X1 : ∀ w ∈ u_ws RX1 TX1 4, w ∈ wsX1_sits := uiM mbX1_sits euX1 (by decide +kernel)
theorem uw_X1_sits_f13 : (.fieldLink RX1 13 "MarchHares$Days" "row" "[I" : Cond) ∈ wsX1_sits := mbX1_sits 276 (by decide +kernel)
set_option maxHeartbeats 4000000 in
set_option maxRecDepth 100000 in
theorem ck_X1_sits (l : Launch) (dC : Nat → ClassId) (dI : Nat → Nat → Nat) (cyB cyI cyJ cyP : ClassId) (a0 jch sz : Nat) (jcD ji6 jhx : Value) (jdE : Nat → Int32)  (p1 : Int32) {Q : Int32 → Prop} (hw : wq_X1_sits jdE  p1 Q) : Met l yX1_sits wsX1_sits ({ frames := 0, cells := 0, slots := 0, locals := 0 }) (va_Pc [.ref a0, .int p1] (cPc (dC, dI) (kT cyB cyI cyJ cyP) (wd00_4 a0 jch jcD ji6 jhx jch cyI jdE) sz)) (va_Qi (fun (r : Int32) (_ : Unit) => Q r ) (cB (dC, dI) (kT cyB cyI cyJ cyP) (va_A (wd00_4 a0 jch jcD ji6 jhx jch cyI jdE) sz) (fun u : Unit => ((wd00_4 a0 jch jcD ji6 jhx jch cyI jdE) : va_W))) (va_A (wd00_4 a0 jch jcD ji6 jhx jch cyI jdE) sz)) 0 0 (va_A (wd00_4 a0 jch jcD ji6 jhx jch cyI jdE) sz) := by
  refine Met.ofW (cc := cX1_sits) (maxL := 2) (ret := (some .int)) (by decide) rfl ?_
  intro p e s m args below meth c s₁ B hml hv
  obtain ⟨rfl, hsz, hP, hK, hD0, hNw⟩ := hv
  have hx := B.exec
  have hb := B.bytes
  have hr := B.returns
  have hts := atoms_spec (ws := wsX1_sits) B.pre
  have hown : s.vm.findClass RX1 = some m.cls := findClass_of_methodNamed B.named
  have hlocks := B.notSynchronized
  subst hsz
  have hD := hD0.self (sz := s.heap.size)
  generalize hAe : va_A (wd00_4 a0 jch jcD ji6 jhx jch cyI jdE) s.heap.size = A at hD ⊢
  have hA : ∀ q : Nat, s.heap.size ≤ q → A q := fun q h => by rw [← hAe]; exact Or.inr h
  have hS : va_S A s.heap s.heap [] := va_S.rf
  have hP : va_P (dC, dI) vwCl (wd00_4 a0 jch jcD ji6 jhx jch cyI jdE) s.heap := hP
  have hl := lv_entry ([.ref a0, .int p1]) (n := 2) (Nat.le_of_ble_eq_true rfl)
  rw [lg_entry_eq]
  generalize (lg_sl ([.ref a0, .int p1]) ++ List.replicate (2 - (lg_sl ([.ref a0, .int p1])).length) Slot.unset).toArray = ls at hl ⊢
  have hl : lv_has ls 2 [(0, .ref a0), (1, .int p1)] := hl
  have C0 : cfx p s m _ meth c cX1_sits (some .int) wsX1_sits RX1 2 A (dC, dI) (kT cyB cyI cyJ cyP) := ⟨hx, hb, hr, hts, hown, hlocks, hml, hA, hK, hNw⟩
  clear hAe
  obtain ⟨H, hH⟩ : ∃ H, H = s.heap := ⟨_, rfl⟩
  rw [← hH] at hP ⊢
  have hS : va_S A s.heap H [] := by rw [hH]; exact va_S.rf
  have hS := hS
  refine lv_aload_n hx hb (dt_of tkX1_sits_k0 0 rfl) rfl (lv_at hl 0 rfl) ?_
  refine va_get (D := (dC, dI)) (ci := 1) (v := .ref jch) (C := RX1) (T := TX1) (N := 4) hx hb hts ui_X1_sits_X1 hown hK hP 0 rfl rfl 0 (by decide) (hts _ uw_X1_sits_f13) (fun _ h9 => h9) rfl (dt_of tkX1_sits_k0 1 rfl) ?_
  refine lv_iconst (v := 4) hx hb (dt_of tkX1_sits_k0 2 rfl) (by decide) ?_
  refine lv_iload_n hx hb (dt_of tkX1_sits_k0 3 rfl) rfl (lv_at hl 1 rfl) ?_
  refine lv_iadd hx hb (dt_of tkX1_sits_k0 4 rfl) ?_
  refine lv_topi (fun x1 ex1 => ?_)
  have hw := hw x1 ex1
  obtain ⟨hi9, hw⟩ := hw
  refine va_iald hx hb hK hP 1 1 rfl rfl hi9 (dt_of tkX1_sits_k0 5 rfl) ?_
  refine lv_topi (fun x2 ex2 => ?_)
  have hw := hw x2 ex2
  exact ((W.iret (v := x2) hx hb hr (fun t ht hW => ⟨⟨x2, (), rfl, hw, by rw [ht]; exact hP, va_K.moved hW.alike hK, hD⟩, hS.F ht⟩) hS.2.2 (dt_of tkX1_sits_k0 6 rfl)))
theorem ui_X2_isSafe_X2 : ∀ w ∈ u_ws RX2 TX2 12, w ∈ wsX2_isSafe := uiM mbX2_isSafe euX2 (by decide +kernel)
theorem uw_X2_isSafe_f101 : (.fieldLink RX2 101 "MarchHares$Down" "safe" "I" : Cond) ∈ wsX2_isSafe := mbX2_isSafe 1047 (by decide +kernel)
theorem uw_X2_isSafe_iniRX10 : (.initialized RX10 : Cond) ∈ wsX2_isSafe := mbX2_isSafe 2 (by decide +kernel)
theorem uw_X2_isSafe_stX10_holds : (.static yX10_holds : Cond) ∈ wsX2_isSafe := mbX2_isSafe 2052 (by decide +kernel)
set_option maxHeartbeats 4000000 in
set_option maxRecDepth 100000 in
theorem ck_X2_isSafe (l : Launch) (dC : Nat → ClassId) (dI : Nat → Nat → Nat) (cyB cyI cyJ cyP : ClassId) (a0 sz : Nat) (jmz jmA jlc jld jkJ jiT jj1 jjT ja0 ja4 jaP : Value) (jmw p1 : Int32) {Q : Int32 → Prop} (hw : wq_X2_isSafe jmw  p1 Q) : Met l yX2_isSafe wsX2_isSafe ({ frames := 1, cells := 0, slots := 0, locals := 21 }) (va_Pc [.ref a0, .int p1] (cPc (dC, dI) (kT cyB cyI cyJ cyP) (wd00_5 a0 jmz jmA jlc jld jkJ jiT jj1 jjT ja0 ja4 jaP jmw) sz)) (va_Qi (fun (r : Int32) (_ : Unit) => Q r ) (cB (dC, dI) (kT cyB cyI cyJ cyP) (va_A (wd00_5 a0 jmz jmA jlc jld jkJ jiT jj1 jjT ja0 ja4 jaP jmw) sz) (fun u : Unit => ((wd00_5 a0 jmz jmA jlc jld jkJ jiT jj1 jjT ja0 ja4 jaP jmw) : va_W))) (va_A (wd00_5 a0 jmz jmA jlc jld jkJ jiT jj1 jjT ja0 ja4 jaP jmw) sz)) 0 0 (va_A (wd00_5 a0 jmz jmA jlc jld jkJ jiT jj1 jjT ja0 ja4 jaP jmw) sz) := by
  refine Met.ofW (cc := cX2_isSafe) (maxL := 2) (ret := (some .boolean)) (by decide) rfl ?_
  intro p e s m args below meth c s₁ B hml hv
  obtain ⟨rfl, hsz, hP, hK, hD0, hNw⟩ := hv
  have hx := B.exec
  have hb := B.bytes
  have hr := B.returns
  have hts := atoms_spec (ws := wsX2_isSafe) B.pre
  have hown : s.vm.findClass RX2 = some m.cls := findClass_of_methodNamed B.named
  have hlocks := B.notSynchronized
  subst hsz
  have hD := hD0.self (sz := s.heap.size)
  generalize hAe : va_A (wd00_5 a0 jmz jmA jlc jld jkJ jiT jj1 jjT ja0 ja4 jaP jmw) s.heap.size = A at hD ⊢
  have hA : ∀ q : Nat, s.heap.size ≤ q → A q := fun q h => by rw [← hAe]; exact Or.inr h
  have hS : va_S A s.heap s.heap [] := va_S.rf
  have hP : va_P (dC, dI) vwCl (wd00_5 a0 jmz jmA jlc jld jkJ jiT jj1 jjT ja0 ja4 jaP jmw) s.heap := hP
  have hl := lv_entry ([.ref a0, .int p1]) (n := 2) (Nat.le_of_ble_eq_true rfl)
  rw [lg_entry_eq]
  generalize (lg_sl ([.ref a0, .int p1]) ++ List.replicate (2 - (lg_sl ([.ref a0, .int p1])).length) Slot.unset).toArray = ls at hl ⊢
  have hl : lv_has ls 2 [(0, .ref a0), (1, .int p1)] := hl
  have C0 : cfx p s m _ meth c cX2_isSafe (some .boolean) wsX2_isSafe RX2 2 A (dC, dI) (kT cyB cyI cyJ cyP) := ⟨hx, hb, hr, hts, hown, hlocks, hml, hA, hK, hNw⟩
  clear hAe
  obtain ⟨H, hH⟩ : ∃ H, H = s.heap := ⟨_, rfl⟩
  rw [← hH] at hP ⊢
  have hS : va_S A s.heap H [] := by rw [hH]; exact va_S.rf
  have hS := hS
  refine lv_aload_n hx hb (dt_of tkX2_isSafe_k0 0 rfl) rfl (lv_at hl 0 rfl) ?_
  refine va_get (D := (dC, dI)) (ci := 2) (v := .int jmw) (C := RX2) (T := TX2) (N := 12) hx hb hts ui_X2_isSafe_X2 hown hK hP 0 rfl rfl 11 (by decide) (hts _ uw_X2_isSafe_f101) (fun _ h9 => h9) rfl (dt_of tkX2_isSafe_k0 1 rfl) ?_
  refine lv_iload_n hx hb (dt_of tkX2_isSafe_k0 2 rfl) rfl (lv_at hl 1 rfl) ?_
  obtain ⟨hCc, hPc, hDc, hFc⟩ := va_pick (ws' := []) hP hD hS hA [] (by decide +kernel) rfl
  refine va_calli (va_runSN (As := [.int jmw, .int p1]) (rest := []) ⟨hx, hb, hml, hown, hts⟩ (ck_X10_holds l dC dI cyB cyI cyJ cyP  H.size    jmw p1 hw) ⟨(va_cnB 2 hts gX2_isSafe_X10_holds_n114 rfl rfl rfl (nw_10 hNw) (hts _ uw_X2_isSafe_iniRX10) (by decide +kernel) ⟨Nat.le_of_ble_eq_true rfl, Nat.le_of_ble_eq_true rfl⟩), (hts _ uw_X2_isSafe_stX10_holds), trivial⟩ ⟨cPc_blind, cPc_pre hPc hK hDc hNw⟩ rfl rfl hl.1 rfl (lv_room (Nat.le_of_ble_eq_true rfl)) (dt_of tkX2_isSafe_k0 3 rfl) ⟨Nat.le_of_ble_eq_true rfl, Nat.le_of_ble_eq_true rfl⟩) hS (fun q _ h => hFc q h) hFc (fun r1 u t H1 locs ht hvm hw hB hz1 hk1 hS => ?_)
  obtain ⟨hP1, hK1, hD1⟩ := hB
  rw [ht] at hP1
  obtain ⟨hP, hD⟩ := va_joinI (wr := (wd00_5 a0 jmz jmA jlc jld jkJ jiT jj1 jjT ja0 ja4 jaP jmw)) (w1 := []) (wn := (wd00_5 a0 jmz jmA jlc jld jkJ jiT jj1 jjT ja0 ja4 jaP jmw)) hP hD [] [0] hCc rfl (by decide +kernel) (by decide +kernel) rfl hk1 hFc hP1 hD1
  generalize H1 = H at hP hS ⊢
  obtain ⟨hn9, hw⟩ := hw
  exact ((W.zret (v := r1) hx hb hr hn9 (fun t ht hW => ⟨⟨r1, (), rfl, hw, by rw [ht]; exact hP, va_K.moved hW.alike hK, hD⟩, hS.F ht⟩) hS.2.2 (dt_of tkX2_isSafe_k0 4 rfl)))
theorem ui_X1_still_X1 : ∀ w ∈ u_ws RX1 TX1 4, w ∈ wsX1_still := uiM mbX1_still euX1 (by decide +kernel)
theorem uw_X1_still_f13 : (.fieldLink RX1 13 "MarchHares$Days" "row" "[I" : Cond) ∈ wsX1_still := mbX1_still 276 (by decide +kernel)
set_option maxHeartbeats 4000000 in
set_option maxRecDepth 100000 in
theorem ck_X1_still (l : Launch) (dC : Nat → ClassId) (dI : Nat → Nat → Nat) (cyB cyI cyJ cyP : ClassId) (a0 jch sz : Nat) (jcD ji6 jhx : Value) (jdE : Nat → Int32)  (p1 : Int32) {Q : Int32 → Prop} (hw : wq_X1_still jdE  p1 Q) : Met l yX1_still wsX1_still ({ frames := 0, cells := 0, slots := 0, locals := 0 }) (va_Pc [.ref a0, .int p1] (cPc (dC, dI) (kT cyB cyI cyJ cyP) (wd00_4 a0 jch jcD ji6 jhx jch cyI jdE) sz)) (va_Qi (fun (r : Int32) (_ : Unit) => Q r ) (cB (dC, dI) (kT cyB cyI cyJ cyP) (va_A (wd00_4 a0 jch jcD ji6 jhx jch cyI jdE) sz) (fun u : Unit => ((wd00_4 a0 jch jcD ji6 jhx jch cyI jdE) : va_W))) (va_A (wd00_4 a0 jch jcD ji6 jhx jch cyI jdE) sz)) 0 0 (va_A (wd00_4 a0 jch jcD ji6 jhx jch cyI jdE) sz) := by
  refine Met.ofW (cc := cX1_still) (maxL := 2) (ret := (some .int)) (by decide) rfl ?_
  intro p e s m args below meth c s₁ B hml hv
  obtain ⟨rfl, hsz, hP, hK, hD0, hNw⟩ := hv
  have hx := B.exec
  have hb := B.bytes
  have hr := B.returns
  have hts := atoms_spec (ws := wsX1_still) B.pre
  have hown : s.vm.findClass RX1 = some m.cls := findClass_of_methodNamed B.named
  have hlocks := B.notSynchronized
  subst hsz
  have hD := hD0.self (sz := s.heap.size)
  generalize hAe : va_A (wd00_4 a0 jch jcD ji6 jhx jch cyI jdE) s.heap.size = A at hD ⊢
  have hA : ∀ q : Nat, s.heap.size ≤ q → A q := fun q h => by rw [← hAe]; exact Or.inr h
  have hS : va_S A s.heap s.heap [] := va_S.rf
  have hP : va_P (dC, dI) vwCl (wd00_4 a0 jch jcD ji6 jhx jch cyI jdE) s.heap := hP
  have hl := lv_entry ([.ref a0, .int p1]) (n := 2) (Nat.le_of_ble_eq_true rfl)
  rw [lg_entry_eq]
  generalize (lg_sl ([.ref a0, .int p1]) ++ List.replicate (2 - (lg_sl ([.ref a0, .int p1])).length) Slot.unset).toArray = ls at hl ⊢
  have hl : lv_has ls 2 [(0, .ref a0), (1, .int p1)] := hl
  have C0 : cfx p s m _ meth c cX1_still (some .int) wsX1_still RX1 2 A (dC, dI) (kT cyB cyI cyJ cyP) := ⟨hx, hb, hr, hts, hown, hlocks, hml, hA, hK, hNw⟩
  clear hAe
  obtain ⟨H, hH⟩ : ∃ H, H = s.heap := ⟨_, rfl⟩
  rw [← hH] at hP ⊢
  have hS : va_S A s.heap H [] := by rw [hH]; exact va_S.rf
  have hS := hS
  refine lv_aload_n hx hb (dt_of tkX1_still_k0 0 rfl) rfl (lv_at hl 0 rfl) ?_
  refine va_get (D := (dC, dI)) (ci := 1) (v := .ref jch) (C := RX1) (T := TX1) (N := 4) hx hb hts ui_X1_still_X1 hown hK hP 0 rfl rfl 0 (by decide) (hts _ uw_X1_still_f13) (fun _ h9 => h9) rfl (dt_of tkX1_still_k0 1 rfl) ?_
  refine lv_bipush (v := 16) hx hb (dt_of tkX1_still_k0 2 rfl) (by decide) ?_
  refine lv_iload_n hx hb (dt_of tkX1_still_k0 3 rfl) rfl (lv_at hl 1 rfl) ?_
  refine lv_iadd hx hb (dt_of tkX1_still_k0 4 rfl) ?_
  refine lv_topi (fun x1 ex1 => ?_)
  have hw := hw x1 ex1
  obtain ⟨hi9, hw⟩ := hw
  refine va_iald hx hb hK hP 1 1 rfl rfl hi9 (dt_of tkX1_still_k0 5 rfl) ?_
  refine lv_topi (fun x2 ex2 => ?_)
  have hw := hw x2 ex2
  exact ((W.iret (v := x2) hx hb hr (fun t ht hW => ⟨⟨x2, (), rfl, hw, by rw [ht]; exact hP, va_K.moved hW.alike hK, hD⟩, hS.F ht⟩) hS.2.2 (dt_of tkX1_still_k0 6 rfl)))
theorem ui_X1_endangered_X1 : ∀ w ∈ u_ws RX1 TX1 4, w ∈ wsX1_endangered := uiM mbX1_endangered euX1 (by decide +kernel)
theorem ui_X1_endangered_X2 : ∀ w ∈ u_ws RX2 TX2 12, w ∈ wsX1_endangered := uiM mbX1_endangered euX2 (by decide +kernel)
theorem uw_X1_endangered_f24 : (.fieldLink RX1 24 "MarchHares$Days" "down" "LMarchHares$Down;" : Cond) ∈ wsX1_endangered := mbX1_endangered 322 (by decide +kernel)
theorem uw_X1_endangered_f32 : (.fieldLink RX1 32 "MarchHares$Down" "hares" "I" : Cond) ∈ wsX1_endangered := mbX1_endangered 324 (by decide +kernel)
set_option maxHeartbeats 4000000 in
set_option maxRecDepth 100000 in
theorem kb_X1_endangered_53 {p : Program} {l : Launch} {e : Env} {s : State} {m : MethodId} {args : Array Value} {below : List Frame} {meth : Method} {c : Code} {A : Nat → Prop} (dC : Nat → ClassId) (dI : Nat → Nat → Nat) (cyB cyI cyJ cyP : ClassId) (a0 jfB jch : Nat) (jcD jhx jhp jhq jgi jgj jgk jgz jfR jgl jgO jfS : Value) (jc5 jjn : Int32) (jdE : Nat → Int32) (Q : Int32 → Prop) (K4 : Int32 → Int32 → Prop) (hK4 : ∀ (H : Heap) (locs : List Loc) (ls : Array Slot) (l1 l2 : Int32), va_P (dC, dI) vwCl (wd00_6 a0 jch jcD jfB jhx jfB jhp jhq jgi jgj jgk jgz jfR jgl jgO jc5 jfS jjn jch cyI jdE) H → va_D A (wd00_6 a0 jch jcD jfB jhx jfB jhp jhq jgi jgj jgk jgz jfR jgl jgO jc5 jfS jjn jch cyI jdE) → va_S A s.heap H locs → lv_has ls 3 [(0, .ref a0), (1, .int l1), (2, .int l2)] → K4 l1 l2 → W p l e (headSpec wsX1_endangered ({ frames := 2, cells := 0, slots := 0, locals := 42 })).room s m args below meth c H locs 0 0 (MQ below (va_Qi (fun (r : Int32) (_ : Unit) => Q r ) (cB (dC, dI) (kT cyB cyI cyJ cyP) A (fun u : Unit => ((wd00_6 a0 jch jcD jfB jhx jfB jhp jhq jgi jgj jgk jgz jfR jgl jgO jc5 jfS jjn jch cyI jdE) : va_W))) A) args s 0 0 A) (F0 m 4 ls [])) (C0 : cfx p s m args meth c cX1_endangered (some .int) wsX1_endangered RX1 3 A (dC, dI) (kT cyB cyI cyJ cyP)) : ∀ (H : Heap) (locs : List Loc) (ls : Array Slot) (l1 l2 : Int32), va_P (dC, dI) vwCl (wd00_6 a0 jch jcD jfB jhx jfB jhp jhq jgi jgj jgk jgz jfR jgl jgO jc5 jfS jjn jch cyI jdE) H → va_D A (wd00_6 a0 jch jcD jfB jhx jfB jhp jhq jgi jgj jgk jgz jfR jgl jgO jc5 jfS jjn jch cyI jdE) → va_S A s.heap H locs → lv_has ls 3 [(0, .ref a0), (1, .int l1), (2, .int l2)] → wb_X1_endangered_53 jc5 jjn jdE Q K4 l1 l2 → W p l e (headSpec wsX1_endangered ({ frames := 2, cells := 0, slots := 0, locals := 42 })).room s m args below meth c H locs 0 0 (MQ below (va_Qi (fun (r : Int32) (_ : Unit) => Q r ) (cB (dC, dI) (kT cyB cyI cyJ cyP) A (fun u : Unit => ((wd00_6 a0 jch jcD jfB jhx jfB jhp jhq jgi jgj jgk jgz jfR jgl jgO jc5 jfS jjn jch cyI jdE) : va_W))) A) args s 0 0 A) (F0 m 53 ls []) := by
  obtain ⟨hx, hb, hr, hts, hown, hlocks, hml, hA, hK, hNw⟩ := id C0
  intro H locs ls l1 l2 hP hD hS hl hw
  obtain ⟨x10, ex10⟩ : ∃ y : Int32, y = l2 + 1 := ⟨_, rfl⟩
  have hw := hw x10 ex10
  refine lv_iinc (v := x10) (lv' := [(2, .int x10), (0, .ref a0), (1, .int l1)]) hx hb (dt_of tkX1_endangered_k28 15 rfl) hl (k := 2) rfl (by rw [ex10]; rfl) (by decide) rfl (fun ls hl => ?_)
  refine lv_goto (tgt := 4) hx hb (dt_of tkX1_endangered_k56 0 rfl) (by decide) ?_
  exact hK4 _ _ _ l1 x10 hP hD hS (lv_sub hl [1, 2, 0] rfl) hw
set_option maxHeartbeats 4000000 in
set_option maxRecDepth 100000 in
theorem kl_X1_endangered_4 {p : Program} {l : Launch} {e : Env} {s : State} {m : MethodId} {args : Array Value} {below : List Frame} {meth : Method} {c : Code} {A : Nat → Prop} (dC : Nat → ClassId) (dI : Nat → Nat → Nat) (cyB cyI cyJ cyP : ClassId) (a0 jfB jch : Nat) (jcD jhx jhp jhq jgi jgj jgk jgz jfR jgl jgO jfS : Value) (jc5 jjn : Int32) (jdE : Nat → Int32) (Q : Int32 → Prop)  (C0 : cfx p s m args meth c cX1_endangered (some .int) wsX1_endangered RX1 3 A (dC, dI) (kT cyB cyI cyJ cyP)) : ∀ (n : Nat) (H : Heap) (locs : List Loc) (ls : Array Slot) (l1 l2 : Int32), va_P (dC, dI) vwCl (wd00_6 a0 jch jcD jfB jhx jfB jhp jhq jgi jgj jgk jgz jfR jgl jgO jc5 jfS jjn jch cyI jdE) H → va_D A (wd00_6 a0 jch jcD jfB jhx jfB jhp jhq jgi jgj jgk jgz jfR jgl jgO jc5 jfS jjn jch cyI jdE) → va_S A s.heap H locs → lv_has ls 3 [(0, .ref a0), (1, .int l1), (2, .int l2)] → wl_X1_endangered_4 jc5 jjn jdE Q  n l1 l2 → W p l e (headSpec wsX1_endangered ({ frames := 2, cells := 0, slots := 0, locals := 42 })).room s m args below meth c H locs 0 0 (MQ below (va_Qi (fun (r : Int32) (_ : Unit) => Q r ) (cB (dC, dI) (kT cyB cyI cyJ cyP) A (fun u : Unit => ((wd00_6 a0 jch jcD jfB jhx jfB jhp jhq jgi jgj jgk jgz jfR jgl jgO jc5 jfS jjn jch cyI jdE) : va_W))) A) args s 0 0 A) (F0 m 4 ls []) := by
  obtain ⟨hx, hb, hr, hts, hown, hlocks, hml, hA, hK, hNw⟩ := id C0
  intro n
  induction n with
  | zero => intro H locs ls l1 l2 hP hD hS hl hw; exact False.elim hw
  | succ n ih =>
    intro H locs ls l1 l2 hP hD hS hl hw
    refine lv_iload_n hx hb (dt_of tkX1_endangered_k0 4 rfl) rfl (lv_at hl 2 rfl) ?_
    refine lv_aload_n hx hb (dt_of tkX1_endangered_k0 5 rfl) rfl (lv_at hl 0 rfl) ?_
    refine va_get (D := (dC, dI)) (ci := 1) (v := .ref jfB) (C := RX1) (T := TX1) (N := 4) hx hb hts ui_X1_endangered_X1 hown hK hP 0 rfl rfl 2 (by decide) (hts _ uw_X1_endangered_f24) (fun _ h9 => h9) rfl (dt_of tkX1_endangered_k0 6 rfl) ?_
    refine va_get (D := (dC, dI)) (ci := 2) (v := .int jc5) (C := RX2) (T := TX2) (N := 12) hx hb hts ui_X1_endangered_X2 hown hK hP 1 rfl rfl 9 (by decide) (hts _ uw_X1_endangered_f32) (fun _ h9 => h9) rfl (dt_of tkX1_endangered_k0 7 rfl) ?_
    refine lv_icmp_ge (tgt := 59) hx hb (dt_of tkX1_endangered_k0 8 rfl) (by decide) (fun c1 => ?_) (fun c1 => ?_)
    · have hw := hw.1 c1
      refine lv_iload_n hx hb (dt_of tkX1_endangered_k56 1 rfl) rfl (lv_at hl 1 rfl) ?_
      exact ((W.iret (v := l1) hx hb hr (fun t ht hW => ⟨⟨l1, (), rfl, hw, by rw [ht]; exact hP, va_K.moved hW.alike hK, hD⟩, hS.F ht⟩) hS.2.2 (dt_of tkX1_endangered_k56 2 rfl)))
    · have hw := hw.2 c1
      refine lv_aload_n hx hb (dt_of tkX1_endangered_k0 9 rfl) rfl (lv_at hl 0 rfl) ?_
      refine lv_iload_n hx hb (dt_of tkX1_endangered_k0 10 rfl) rfl (lv_at hl 2 rfl) ?_
      obtain ⟨hCc, hPc, hDc, hFc⟩ := va_pick (ws' := (wd00_7 a0 jch jcD jfB jhx jch cyI jdE)) hP hD hS hA [0, 2] (by decide +kernel) rfl
      refine va_calli (va_runV (As := [.int l2]) (rest := []) ⟨hx, hb, hml, hown, hts⟩ (ck_X1_isCaught l dC dI cyB cyI cyJ cyP a0 jch H.size (jcD) (.ref jfB) (jhx) jdE  l2 hw) (cwV 1 hts gX1_endangered_X1_isCaught rfl rfl rfl (by decide +kernel) ⟨Nat.le_of_ble_eq_true rfl, Nat.le_of_ble_eq_true rfl⟩) ⟨cPc_blind, va_recv (q := (RX1, TX1, 4)) hK hPc (ci := 1) (q0 := 0) rfl rfl, cPc_pre hPc hK hDc hNw⟩ rfl rfl hl.1 rfl (lv_room (Nat.le_of_ble_eq_true rfl)) (dt_of tkX1_endangered_k0 11 rfl) ⟨Nat.le_of_ble_eq_true rfl, Nat.le_of_ble_eq_true rfl⟩) hS (fun q _ h => hFc q h) hFc (fun r2 u t H1 locs ht hvm hw hB hz1 hk1 hS => ?_)
      obtain ⟨hP1, hK1, hD1⟩ := hB
      rw [ht] at hP1
      obtain ⟨hP, hD⟩ := va_joinN (wr := (wd00_8 jfB jhp jhq jgi jgj jgk jgz jfR jgl jgO jc5 jfS jjn)) (w1 := (wd00_7 a0 jch jcD jfB jhx jch cyI jdE)) (wn := (wd00_6 a0 jch jcD jfB jhx jfB jhp jhq jgi jgj jgk jgz jfR jgl jgO jc5 jfS jjn jch cyI jdE)) hP hD [0, 2] [1] [1, 0, 2] hCc rfl (by decide +kernel) (by decide +kernel) (by decide +kernel) rfl hk1 hFc hP1 hD1
      generalize H1 = H at hP hS ⊢
      refine lv_if_ne (tgt := 53) hx hb (dt_of tkX1_endangered_k0 12 rfl) (by decide) (fun c3 => ?_) (fun c3 => ?_)
      · have hw := hw.1 c3
        exact kb_X1_endangered_53 dC dI cyB cyI cyJ cyP a0 jfB jch jcD jhx jhp jhq jgi jgj jgk jgz jfR jgl jgO jfS jc5 jjn jdE Q (wl_X1_endangered_4 jc5 jjn jdE Q  n) ih C0 _ _ _ l1 l2 hP hD hS (lv_sub hl [0, 1, 2] rfl) hw
      · have hw := hw.2 c3
        refine lv_aload_n hx hb (dt_of tkX1_endangered_k0 13 rfl) rfl (lv_at hl 0 rfl) ?_
        refine va_get (D := (dC, dI)) (ci := 1) (v := .ref jfB) (C := RX1) (T := TX1) (N := 4) hx hb hts ui_X1_endangered_X1 hown hK hP 0 rfl rfl 2 (by decide) (hts _ uw_X1_endangered_f24) (fun _ h9 => h9) rfl (dt_of tkX1_endangered_k0 14 rfl) ?_
        refine lv_aload_n hx hb (dt_of tkX1_endangered_k0 15 rfl) rfl (lv_at hl 0 rfl) ?_
        refine lv_iload_n hx hb (dt_of tkX1_endangered_k28 0 rfl) rfl (lv_at hl 2 rfl) ?_
        obtain ⟨hCc, hPc, hDc, hFc⟩ := va_pick (ws' := (wd00_7 a0 jch jcD jfB jhx jch cyI jdE)) hP hD hS hA [0, 2] (by decide +kernel) rfl
        refine va_calli (va_runV (As := [.int l2]) (rest := [.ref jfB]) ⟨hx, hb, hml, hown, hts⟩ (ck_X1_sits l dC dI cyB cyI cyJ cyP a0 jch H.size (jcD) (.ref jfB) (jhx) jdE  l2 hw) (cwV 1 hts gX1_endangered_X1_sits rfl rfl rfl (by decide +kernel) ⟨Nat.le_of_ble_eq_true rfl, Nat.le_of_ble_eq_true rfl⟩) ⟨cPc_blind, va_recv (q := (RX1, TX1, 4)) hK hPc (ci := 1) (q0 := 0) rfl rfl, cPc_pre hPc hK hDc hNw⟩ rfl rfl hl.1 rfl (lv_room (Nat.le_of_ble_eq_true rfl)) (dt_of tkX1_endangered_k28 1 rfl) ⟨Nat.le_of_ble_eq_true rfl, Nat.le_of_ble_eq_true rfl⟩) hS (fun q _ h => hFc q h) hFc (fun r4 u t H1 locs ht hvm hw hB hz1 hk1 hS => ?_)
        obtain ⟨hP1, hK1, hD1⟩ := hB
        rw [ht] at hP1
        obtain ⟨hP, hD⟩ := va_joinN (wr := (wd00_8 jfB jhp jhq jgi jgj jgk jgz jfR jgl jgO jc5 jfS jjn)) (w1 := (wd00_7 a0 jch jcD jfB jhx jch cyI jdE)) (wn := (wd00_6 a0 jch jcD jfB jhx jfB jhp jhq jgi jgj jgk jgz jfR jgl jgO jc5 jfS jjn jch cyI jdE)) hP hD [0, 2] [1] [1, 0, 2] hCc rfl (by decide +kernel) (by decide +kernel) (by decide +kernel) rfl hk1 hFc hP1 hD1
        generalize H1 = H at hP hS ⊢
        obtain ⟨hCc, hPc, hDc, hFc⟩ := va_pick (ws' := (wd00_8 jfB jhp jhq jgi jgj jgk jgz jfR jgl jgO jc5 jfS jjn)) hP hD hS hA [1] (by decide +kernel) rfl
        refine va_calli (va_runV (As := [.int r4]) (rest := []) ⟨hx, hb, hml, hown, hts⟩ (ck_X2_isSafe l dC dI cyB cyI cyJ cyP jfB H.size (jhp) (jhq) (jgi) (jgj) (jgk) (jgz) (jfR) (jgl) (jgO) (.int jc5) (jfS) jjn  r4 hw) (cwV 1 hts gX1_endangered_X2_isSafe rfl rfl rfl (by decide +kernel) ⟨Nat.le_of_ble_eq_true rfl, Nat.le_of_ble_eq_true rfl⟩) ⟨cPc_blind, va_recv (q := (RX2, TX2, 12)) hK hPc (ci := 2) (q0 := 0) rfl rfl, cPc_pre hPc hK hDc hNw⟩ rfl rfl hl.1 rfl (lv_room (Nat.le_of_ble_eq_true rfl)) (dt_of tkX1_endangered_k28 2 rfl) ⟨Nat.le_of_ble_eq_true rfl, Nat.le_of_ble_eq_true rfl⟩) hS (fun q _ h => hFc q h) hFc (fun r5 u t H1 locs ht hvm hw hB hz1 hk1 hS => ?_)
        obtain ⟨hP1, hK1, hD1⟩ := hB
        rw [ht] at hP1
        obtain ⟨hP, hD⟩ := va_joinN (wr := (wd00_7 a0 jch jcD jfB jhx jch cyI jdE)) (w1 := (wd00_8 jfB jhp jhq jgi jgj jgk jgz jfR jgl jgO jc5 jfS jjn)) (wn := (wd00_6 a0 jch jcD jfB jhx jfB jhp jhq jgi jgj jgk jgz jfR jgl jgO jc5 jfS jjn jch cyI jdE)) hP hD [1] [0, 2] [0, 2, 1] hCc rfl (by decide +kernel) (by decide +kernel) (by decide +kernel) rfl hk1 hFc hP1 hD1
        generalize H1 = H at hP hS ⊢
        refine lv_if_ne (tgt := 53) hx hb (dt_of tkX1_endangered_k28 3 rfl) (by decide) (fun c6 => ?_) (fun c6 => ?_)
        · have hw := hw.1 c6
          exact kb_X1_endangered_53 dC dI cyB cyI cyJ cyP a0 jfB jch jcD jhx jhp jhq jgi jgj jgk jgz jfR jgl jgO jfS jc5 jjn jdE Q (wl_X1_endangered_4 jc5 jjn jdE Q  n) ih C0 _ _ _ l1 l2 hP hD hS (lv_sub hl [0, 1, 2] rfl) hw
        · have hw := hw.2 c6
          refine lv_aload_n hx hb (dt_of tkX1_endangered_k28 4 rfl) rfl (lv_at hl 0 rfl) ?_
          refine lv_iload_n hx hb (dt_of tkX1_endangered_k28 5 rfl) rfl (lv_at hl 2 rfl) ?_
          obtain ⟨hCc, hPc, hDc, hFc⟩ := va_pick (ws' := (wd00_7 a0 jch jcD jfB jhx jch cyI jdE)) hP hD hS hA [0, 2] (by decide +kernel) rfl
          refine va_calli (va_runV (As := [.int l2]) (rest := []) ⟨hx, hb, hml, hown, hts⟩ (ck_X1_still l dC dI cyB cyI cyJ cyP a0 jch H.size (jcD) (.ref jfB) (jhx) jdE  l2 hw) (cwV 1 hts gX1_endangered_X1_still rfl rfl rfl (by decide +kernel) ⟨Nat.le_of_ble_eq_true rfl, Nat.le_of_ble_eq_true rfl⟩) ⟨cPc_blind, va_recv (q := (RX1, TX1, 4)) hK hPc (ci := 1) (q0 := 0) rfl rfl, cPc_pre hPc hK hDc hNw⟩ rfl rfl hl.1 rfl (lv_room (Nat.le_of_ble_eq_true rfl)) (dt_of tkX1_endangered_k28 6 rfl) ⟨Nat.le_of_ble_eq_true rfl, Nat.le_of_ble_eq_true rfl⟩) hS (fun q _ h => hFc q h) hFc (fun r7 u t H1 locs ht hvm hw hB hz1 hk1 hS => ?_)
          obtain ⟨hP1, hK1, hD1⟩ := hB
          rw [ht] at hP1
          obtain ⟨hP, hD⟩ := va_joinN (wr := (wd00_8 jfB jhp jhq jgi jgj jgk jgz jfR jgl jgO jc5 jfS jjn)) (w1 := (wd00_7 a0 jch jcD jfB jhx jch cyI jdE)) (wn := (wd00_6 a0 jch jcD jfB jhx jfB jhp jhq jgi jgj jgk jgz jfR jgl jgO jc5 jfS jjn jch cyI jdE)) hP hD [0, 2] [1] [1, 0, 2] hCc rfl (by decide +kernel) (by decide +kernel) (by decide +kernel) rfl hk1 hFc hP1 hD1
          generalize H1 = H at hP hS ⊢
          refine lv_iconst (v := 3) hx hb (dt_of tkX1_endangered_k28 7 rfl) (by decide) ?_
          refine lv_icmp_ge (tgt := 53) hx hb (dt_of tkX1_endangered_k28 8 rfl) (by decide) (fun c8 => ?_) (fun c8 => ?_)
          · have hw := hw.1 c8
            exact kb_X1_endangered_53 dC dI cyB cyI cyJ cyP a0 jfB jch jcD jhx jhp jhq jgi jgj jgk jgz jfR jgl jgO jfS jc5 jjn jdE Q (wl_X1_endangered_4 jc5 jjn jdE Q  n) ih C0 _ _ _ l1 l2 hP hD hS (lv_sub hl [0, 1, 2] rfl) hw
          · have hw := hw.2 c8
            refine lv_iload_n hx hb (dt_of tkX1_endangered_k28 9 rfl) rfl (lv_at hl 1 rfl) ?_
            refine lv_iconst (v := 1) hx hb (dt_of tkX1_endangered_k28 10 rfl) (by decide) ?_
            refine lv_iload_n hx hb (dt_of tkX1_endangered_k28 11 rfl) rfl (lv_at hl 2 rfl) ?_
            refine lv_ishl hx hb (dt_of tkX1_endangered_k28 12 rfl) ?_
            refine lv_ior hx hb (dt_of tkX1_endangered_k28 13 rfl) ?_
            refine lv_topi (fun x9 ex9 => ?_)
            have hw := hw x9 ex9
            refine lv_istore_n (lv' := [(1, .int x9), (0, .ref a0), (2, .int l2)]) hx hb (dt_of tkX1_endangered_k28 14 rfl) rfl hl (by decide) rfl (fun ls hl => ?_)
            exact kb_X1_endangered_53 dC dI cyB cyI cyJ cyP a0 jfB jch jcD jhx jhp jhq jgi jgj jgk jgz jfR jgl jgO jfS jc5 jjn jdE Q (wl_X1_endangered_4 jc5 jjn jdE Q  n) ih C0 _ _ _ x9 l2 hP hD hS (lv_sub hl [1, 0, 2] rfl) hw
set_option maxHeartbeats 4000000 in
set_option maxRecDepth 100000 in
theorem ck_X1_endangered (l : Launch) (dC : Nat → ClassId) (dI : Nat → Nat → Nat) (cyB cyI cyJ cyP : ClassId) (a0 jfB jch sz : Nat) (jcD jhx jhp jhq jgi jgj jgk jgz jfR jgl jgO jfS : Value) (jc5 jjn : Int32) (jdE : Nat → Int32)   {Q : Int32 → Prop} (hw : wq_X1_endangered jc5 jjn jdE   Q) : Met l yX1_endangered wsX1_endangered ({ frames := 2, cells := 0, slots := 0, locals := 42 }) (va_Pc [.ref a0] (cPc (dC, dI) (kT cyB cyI cyJ cyP) (wd00_6 a0 jch jcD jfB jhx jfB jhp jhq jgi jgj jgk jgz jfR jgl jgO jc5 jfS jjn jch cyI jdE) sz)) (va_Qi (fun (r : Int32) (_ : Unit) => Q r ) (cB (dC, dI) (kT cyB cyI cyJ cyP) (va_A (wd00_6 a0 jch jcD jfB jhx jfB jhp jhq jgi jgj jgk jgz jfR jgl jgO jc5 jfS jjn jch cyI jdE) sz) (fun u : Unit => ((wd00_6 a0 jch jcD jfB jhx jfB jhp jhq jgi jgj jgk jgz jfR jgl jgO jc5 jfS jjn jch cyI jdE) : va_W))) (va_A (wd00_6 a0 jch jcD jfB jhx jfB jhp jhq jgi jgj jgk jgz jfR jgl jgO jc5 jfS jjn jch cyI jdE) sz)) 0 0 (va_A (wd00_6 a0 jch jcD jfB jhx jfB jhp jhq jgi jgj jgk jgz jfR jgl jgO jc5 jfS jjn jch cyI jdE) sz) := by
  refine Met.ofW (cc := cX1_endangered) (maxL := 3) (ret := (some .int)) (by decide) rfl ?_
  intro p e s m args below meth c s₁ B hml hv
  obtain ⟨rfl, hsz, hP, hK, hD0, hNw⟩ := hv
  have hx := B.exec
  have hb := B.bytes
  have hr := B.returns
  have hts := atoms_spec (ws := wsX1_endangered) B.pre
  have hown : s.vm.findClass RX1 = some m.cls := findClass_of_methodNamed B.named
  have hlocks := B.notSynchronized
  subst hsz
  have hD := hD0.self (sz := s.heap.size)
  generalize hAe : va_A (wd00_6 a0 jch jcD jfB jhx jfB jhp jhq jgi jgj jgk jgz jfR jgl jgO jc5 jfS jjn jch cyI jdE) s.heap.size = A at hD ⊢
  have hA : ∀ q : Nat, s.heap.size ≤ q → A q := fun q h => by rw [← hAe]; exact Or.inr h
  have hS : va_S A s.heap s.heap [] := va_S.rf
  have hP : va_P (dC, dI) vwCl (wd00_6 a0 jch jcD jfB jhx jfB jhp jhq jgi jgj jgk jgz jfR jgl jgO jc5 jfS jjn jch cyI jdE) s.heap := hP
  have hl := lv_entry ([.ref a0]) (n := 3) (Nat.le_of_ble_eq_true rfl)
  rw [lg_entry_eq]
  generalize (lg_sl ([.ref a0]) ++ List.replicate (3 - (lg_sl ([.ref a0])).length) Slot.unset).toArray = ls at hl ⊢
  have hl : lv_has ls 3 [(0, .ref a0)] := hl
  have C0 : cfx p s m _ meth c cX1_endangered (some .int) wsX1_endangered RX1 3 A (dC, dI) (kT cyB cyI cyJ cyP) := ⟨hx, hb, hr, hts, hown, hlocks, hml, hA, hK, hNw⟩
  clear hAe
  obtain ⟨H, hH⟩ : ∃ H, H = s.heap := ⟨_, rfl⟩
  rw [← hH] at hP ⊢
  have hS : va_S A s.heap H [] := by rw [hH]; exact va_S.rf
  have hS := hS
  refine lv_iconst (v := 0) hx hb (dt_of tkX1_endangered_k0 0 rfl) (by decide) ?_
  refine lv_istore_n (lv' := [(1, .int 0), (0, .ref a0)]) hx hb (dt_of tkX1_endangered_k0 1 rfl) rfl hl (by decide) rfl (fun ls hl => ?_)
  refine lv_iconst (v := 0) hx hb (dt_of tkX1_endangered_k0 2 rfl) (by decide) ?_
  refine lv_istore_n (lv' := [(2, .int 0), (1, .int 0), (0, .ref a0)]) hx hb (dt_of tkX1_endangered_k0 3 rfl) rfl hl (by decide) rfl (fun ls hl => ?_)
  obtain ⟨n9, hw⟩ := hw
  exact kl_X1_endangered_4 dC dI cyB cyI cyJ cyP a0 jfB jch jcD jhx jhp jhq jgi jgj jgk jgz jfR jgl jgO jfS jc5 jjn jdE Q  C0 n9 _ _ _ 0 0 hP hD hS (lv_sub hl [2, 1, 0] rfl) hw
theorem ui_X1_dropDebts_X1 : ∀ w ∈ u_ws RX1 TX1 4, w ∈ wsX1_dropDebts := uiM mbX1_dropDebts euX1 (by decide +kernel)
theorem ui_X1_dropDebts_X2 : ∀ w ∈ u_ws RX2 TX2 12, w ∈ wsX1_dropDebts := uiM mbX1_dropDebts euX2 (by decide +kernel)
theorem uw_X1_dropDebts_f13 : (.fieldLink RX1 13 "MarchHares$Days" "row" "[I" : Cond) ∈ wsX1_dropDebts := mbX1_dropDebts 276 (by decide +kernel)
theorem uw_X1_dropDebts_f24 : (.fieldLink RX1 24 "MarchHares$Days" "down" "LMarchHares$Down;" : Cond) ∈ wsX1_dropDebts := mbX1_dropDebts 322 (by decide +kernel)
theorem uw_X1_dropDebts_f32 : (.fieldLink RX1 32 "MarchHares$Down" "hares" "I" : Cond) ∈ wsX1_dropDebts := mbX1_dropDebts 324 (by decide +kernel)
set_option maxHeartbeats 4000000 in
set_option maxRecDepth 100000 in
theorem kl_X1_dropDebts_2 {p : Program} {l : Launch} {e : Env} {s : State} {m : MethodId} {args : Array Value} {below : List Frame} {meth : Method} {c : Code} {A : Nat → Prop} (dC : Nat → ClassId) (dI : Nat → Nat → Nat) (cyB cyI cyJ cyP : ClassId) (a0 jfB jch : Nat) (jcD jhx jhp jhq jgi jgj jgk jgz jfR jgl jgO jfS jiB : Value) (jc5 : Int32) (Q : (Nat → Int32) → Prop)  (C0 : cfx p s m args meth c cX1_dropDebts none wsX1_dropDebts RX1 3 A (dC, dI) (kT cyB cyI cyJ cyP)) : ∀ (n : Nat) (H : Heap) (locs : List Loc) (ls : Array Slot) (jdE : Nat → Int32) (l1 l2 : Int32), va_P (dC, dI) vwCl (wd00_9 a0 jch jcD jfB jhx jfB jhp jhq jgi jgj jgk jgz jfR jgl jgO jc5 jfS jiB jch cyI jdE) H → va_D A (wd00_9 a0 jch jcD jfB jhx jfB jhp jhq jgi jgj jgk jgz jfR jgl jgO jc5 jfS jiB jch cyI jdE) → va_S A s.heap H locs → lv_has ls 3 [(0, .ref a0), (1, .int l1), (2, .int l2)] → wl_X1_dropDebts_2 jc5 Q  n jdE l1 l2 → W p l e (headSpec wsX1_dropDebts ({ frames := 0, cells := 0, slots := 0, locals := 0 })).room s m args below meth c H locs 0 0 (MQ below (va_Qv (fun (u : (Nat → Int32)) => Q u) (cB (dC, dI) (kT cyB cyI cyJ cyP) A (fun u : (Nat → Int32) => ((wd00_9 a0 jch jcD jfB jhx jfB jhp jhq jgi jgj jgk jgz jfR jgl jgO jc5 jfS jiB jch cyI u) : va_W))) A) args s 0 0 A) (F0 m 2 ls []) := by
  obtain ⟨hx, hb, hr, hts, hown, hlocks, hml, hA, hK, hNw⟩ := id C0
  intro n
  induction n with
  | zero => intro H locs ls jdE l1 l2 hP hD hS hl hw; exact False.elim hw
  | succ n ih =>
    intro H locs ls jdE l1 l2 hP hD hS hl hw
    refine lv_iload_n hx hb (dt_of tkX1_dropDebts_k0 2 rfl) rfl (lv_at hl 2 rfl) ?_
    refine lv_aload_n hx hb (dt_of tkX1_dropDebts_k0 3 rfl) rfl (lv_at hl 0 rfl) ?_
    refine va_get (D := (dC, dI)) (ci := 1) (v := .ref jfB) (C := RX1) (T := TX1) (N := 4) hx hb hts ui_X1_dropDebts_X1 hown hK hP 0 rfl rfl 2 (by decide) (hts _ uw_X1_dropDebts_f24) (fun _ h9 => h9) rfl (dt_of tkX1_dropDebts_k0 4 rfl) ?_
    refine va_get (D := (dC, dI)) (ci := 2) (v := .int jc5) (C := RX2) (T := TX2) (N := 12) hx hb hts ui_X1_dropDebts_X2 hown hK hP 1 rfl rfl 9 (by decide) (hts _ uw_X1_dropDebts_f32) (fun _ h9 => h9) rfl (dt_of tkX1_dropDebts_k0 5 rfl) ?_
    refine lv_icmp_ge (tgt := 49) hx hb (dt_of tkX1_dropDebts_k0 6 rfl) (by decide) (fun c1 => ?_) (fun c1 => ?_)
    · have hw := hw.1 c1
      exact ((W.vret hx hb hr (fun t ht hW => ⟨⟨(jdE), rfl, hw, by rw [ht]; exact hP, va_K.moved hW.alike hK, hD⟩, hS.F ht⟩) hS.2.2 (dt_of tkX1_dropDebts_k26 15 rfl)))
    · have hw := hw.2 c1
      refine lv_aload_n hx hb (dt_of tkX1_dropDebts_k0 7 rfl) rfl (lv_at hl 0 rfl) ?_
      refine va_get (D := (dC, dI)) (ci := 1) (v := .ref jch) (C := RX1) (T := TX1) (N := 4) hx hb hts ui_X1_dropDebts_X1 hown hK hP 0 rfl rfl 0 (by decide) (hts _ uw_X1_dropDebts_f13) (fun _ h9 => h9) rfl (dt_of tkX1_dropDebts_k0 8 rfl) ?_
      refine lv_bipush (v := 28) hx hb (dt_of tkX1_dropDebts_k0 9 rfl) (by decide) ?_
      refine lv_iload_n hx hb (dt_of tkX1_dropDebts_k0 10 rfl) rfl (lv_at hl 1 rfl) ?_
      refine lv_bipush (v := 6) hx hb (dt_of tkX1_dropDebts_k0 11 rfl) (by decide) ?_
      refine lv_imul hx hb (dt_of tkX1_dropDebts_k0 12 rfl) ?_
      refine lv_iadd hx hb (dt_of tkX1_dropDebts_k0 13 rfl) ?_
      refine lv_topi (fun x2 ex2 => ?_)
      have hw := hw x2 ex2
      refine lv_iload_n hx hb (dt_of tkX1_dropDebts_k0 14 rfl) rfl (lv_at hl 2 rfl) ?_
      refine lv_iadd hx hb (dt_of tkX1_dropDebts_k0 15 rfl) ?_
      refine lv_topi (fun x3 ex3 => ?_)
      have hw := hw x3 ex3
      refine lv_iconst (v := 0) hx hb (dt_of tkX1_dropDebts_k26 0 rfl) (by decide) ?_
      obtain ⟨hi9, hw⟩ := hw
      refine va_iast hx hb hK hP hD hS 2 1 rfl rfl hi9 (dt_of tkX1_dropDebts_k26 1 rfl) (fun H locs hP hD hS => ?_)
      obtain ⟨f4, ef4⟩ : ∃ y : Nat → Int32, y = upd jdE x3.toNatClampNeg 0 := ⟨_, rfl⟩
      have hw := hw f4 ef4
      have hP : va_P (dC, dI) vwCl (wd00_9 a0 jch jcD jfB jhx jfB jhp jhq jgi jgj jgk jgz jfR jgl jgO jc5 jfS jiB jch cyI f4) H := by rw [ef4]; exact hP
      have hD : va_D A (wd00_9 a0 jch jcD jfB jhx jfB jhp jhq jgi jgj jgk jgz jfR jgl jgO jc5 jfS jiB jch cyI f4) := by rw [ef4]; exact hD
      refine lv_aload_n hx hb (dt_of tkX1_dropDebts_k26 2 rfl) rfl (lv_at hl 0 rfl) ?_
      refine va_get (D := (dC, dI)) (ci := 1) (v := .ref jch) (C := RX1) (T := TX1) (N := 4) hx hb hts ui_X1_dropDebts_X1 hown hK hP 0 rfl rfl 0 (by decide) (hts _ uw_X1_dropDebts_f13) (fun _ h9 => h9) rfl (dt_of tkX1_dropDebts_k26 3 rfl) ?_
      refine lv_bipush (v := 28) hx hb (dt_of tkX1_dropDebts_k26 4 rfl) (by decide) ?_
      refine lv_iload_n hx hb (dt_of tkX1_dropDebts_k26 5 rfl) rfl (lv_at hl 2 rfl) ?_
      refine lv_bipush (v := 6) hx hb (dt_of tkX1_dropDebts_k26 6 rfl) (by decide) ?_
      refine lv_imul hx hb (dt_of tkX1_dropDebts_k26 7 rfl) ?_
      refine lv_iadd hx hb (dt_of tkX1_dropDebts_k26 8 rfl) ?_
      refine lv_topi (fun x5 ex5 => ?_)
      have hw := hw x5 ex5
      refine lv_iload_n hx hb (dt_of tkX1_dropDebts_k26 9 rfl) rfl (lv_at hl 1 rfl) ?_
      refine lv_iadd hx hb (dt_of tkX1_dropDebts_k26 10 rfl) ?_
      refine lv_topi (fun x6 ex6 => ?_)
      have hw := hw x6 ex6
      refine lv_iconst (v := 0) hx hb (dt_of tkX1_dropDebts_k26 11 rfl) (by decide) ?_
      obtain ⟨hi9, hw⟩ := hw
      refine va_iast hx hb hK hP hD hS 2 1 rfl rfl hi9 (dt_of tkX1_dropDebts_k26 12 rfl) (fun H locs hP hD hS => ?_)
      obtain ⟨f7, ef7⟩ : ∃ y : Nat → Int32, y = upd f4 x6.toNatClampNeg 0 := ⟨_, rfl⟩
      have hw := hw f7 ef7
      have hP : va_P (dC, dI) vwCl (wd00_9 a0 jch jcD jfB jhx jfB jhp jhq jgi jgj jgk jgz jfR jgl jgO jc5 jfS jiB jch cyI f7) H := by rw [ef7]; exact hP
      have hD : va_D A (wd00_9 a0 jch jcD jfB jhx jfB jhp jhq jgi jgj jgk jgz jfR jgl jgO jc5 jfS jiB jch cyI f7) := by rw [ef7]; exact hD
      obtain ⟨x8, ex8⟩ : ∃ y : Int32, y = l2 + 1 := ⟨_, rfl⟩
      have hw := hw x8 ex8
      refine lv_iinc (v := x8) (lv' := [(2, .int x8), (0, .ref a0), (1, .int l1)]) hx hb (dt_of tkX1_dropDebts_k26 13 rfl) hl (k := 2) rfl (by rw [ex8]; rfl) (by decide) rfl (fun ls hl => ?_)
      refine lv_goto (tgt := 2) hx hb (dt_of tkX1_dropDebts_k26 14 rfl) (by decide) ?_
      exact ih _ _ _ f7 l1 x8 hP hD hS (lv_sub hl [1, 2, 0] rfl) hw
set_option maxHeartbeats 4000000 in
set_option maxRecDepth 100000 in
theorem ck_X1_dropDebts (l : Launch) (dC : Nat → ClassId) (dI : Nat → Nat → Nat) (cyB cyI cyJ cyP : ClassId) (a0 jfB jch sz : Nat) (jcD jhx jhp jhq jgi jgj jgk jgz jfR jgl jgO jfS jiB : Value) (jc5 : Int32) (jdE : Nat → Int32) (p1 : Int32) {Q : (Nat → Int32) → Prop} (hw : wq_X1_dropDebts jc5 jdE p1 Q) : Met l yX1_dropDebts wsX1_dropDebts ({ frames := 0, cells := 0, slots := 0, locals := 0 }) (va_Pc [.ref a0, .int p1] (cPc (dC, dI) (kT cyB cyI cyJ cyP) (wd00_9 a0 jch jcD jfB jhx jfB jhp jhq jgi jgj jgk jgz jfR jgl jgO jc5 jfS jiB jch cyI jdE) sz)) (va_Qv (fun (u : (Nat → Int32)) => Q u) (cB (dC, dI) (kT cyB cyI cyJ cyP) (va_A (wd00_9 a0 jch jcD jfB jhx jfB jhp jhq jgi jgj jgk jgz jfR jgl jgO jc5 jfS jiB jch cyI jdE) sz) (fun u : (Nat → Int32) => ((wd00_9 a0 jch jcD jfB jhx jfB jhp jhq jgi jgj jgk jgz jfR jgl jgO jc5 jfS jiB jch cyI u) : va_W))) (va_A (wd00_9 a0 jch jcD jfB jhx jfB jhp jhq jgi jgj jgk jgz jfR jgl jgO jc5 jfS jiB jch cyI jdE) sz)) 0 0 (va_A (wd00_9 a0 jch jcD jfB jhx jfB jhp jhq jgi jgj jgk jgz jfR jgl jgO jc5 jfS jiB jch cyI jdE) sz) := by
  refine Met.ofW (cc := cX1_dropDebts) (maxL := 3) (ret := none) (by decide) rfl ?_
  intro p e s m args below meth c s₁ B hml hv
  obtain ⟨rfl, hsz, hP, hK, hD0, hNw⟩ := hv
  have hx := B.exec
  have hb := B.bytes
  have hr := B.returns
  have hts := atoms_spec (ws := wsX1_dropDebts) B.pre
  have hown : s.vm.findClass RX1 = some m.cls := findClass_of_methodNamed B.named
  have hlocks := B.notSynchronized
  subst hsz
  have hD := hD0.self (sz := s.heap.size)
  generalize hAe : va_A (wd00_9 a0 jch jcD jfB jhx jfB jhp jhq jgi jgj jgk jgz jfR jgl jgO jc5 jfS jiB jch cyI jdE) s.heap.size = A at hD ⊢
  have hA : ∀ q : Nat, s.heap.size ≤ q → A q := fun q h => by rw [← hAe]; exact Or.inr h
  have hS : va_S A s.heap s.heap [] := va_S.rf
  have hP : va_P (dC, dI) vwCl (wd00_9 a0 jch jcD jfB jhx jfB jhp jhq jgi jgj jgk jgz jfR jgl jgO jc5 jfS jiB jch cyI jdE) s.heap := hP
  have hl := lv_entry ([.ref a0, .int p1]) (n := 3) (Nat.le_of_ble_eq_true rfl)
  rw [lg_entry_eq]
  generalize (lg_sl ([.ref a0, .int p1]) ++ List.replicate (3 - (lg_sl ([.ref a0, .int p1])).length) Slot.unset).toArray = ls at hl ⊢
  have hl : lv_has ls 3 [(0, .ref a0), (1, .int p1)] := hl
  have C0 : cfx p s m _ meth c cX1_dropDebts none wsX1_dropDebts RX1 3 A (dC, dI) (kT cyB cyI cyJ cyP) := ⟨hx, hb, hr, hts, hown, hlocks, hml, hA, hK, hNw⟩
  clear hAe
  obtain ⟨H, hH⟩ : ∃ H, H = s.heap := ⟨_, rfl⟩
  rw [← hH] at hP ⊢
  have hS : va_S A s.heap H [] := by rw [hH]; exact va_S.rf
  have hS := hS
  refine lv_iconst (v := 0) hx hb (dt_of tkX1_dropDebts_k0 0 rfl) (by decide) ?_
  refine lv_istore_n (lv' := [(2, .int 0), (0, .ref a0), (1, .int p1)]) hx hb (dt_of tkX1_dropDebts_k0 1 rfl) rfl hl (by decide) rfl (fun ls hl => ?_)
  obtain ⟨n9, hw⟩ := hw
  exact kl_X1_dropDebts_2 dC dI cyB cyI cyJ cyP a0 jfB jch jcD jhx jhp jhq jgi jgj jgk jgz jfR jgl jgO jfS jiB jc5 Q  C0 n9 _ _ _ jdE p1 0 hP hD hS (lv_sub hl [1, 2, 0] rfl) hw
theorem ui_X1_strike_X1 : ∀ w ∈ u_ws RX1 TX1 4, w ∈ wsX1_strike := uiM mbX1_strike euX1 (by decide +kernel)
theorem ui_X1_strike_X2 : ∀ w ∈ u_ws RX2 TX2 12, w ∈ wsX1_strike := uiM mbX1_strike euX2 (by decide +kernel)
theorem uw_X1_strike_f13 : (.fieldLink RX1 13 "MarchHares$Days" "row" "[I" : Cond) ∈ wsX1_strike := mbX1_strike 276 (by decide +kernel)
theorem uw_X1_strike_f24 : (.fieldLink RX1 24 "MarchHares$Days" "down" "LMarchHares$Down;" : Cond) ∈ wsX1_strike := mbX1_strike 322 (by decide +kernel)
theorem uw_X1_strike_f32 : (.fieldLink RX1 32 "MarchHares$Down" "hares" "I" : Cond) ∈ wsX1_strike := mbX1_strike 324 (by decide +kernel)
theorem uw_X1_strike_f39 : (.fieldLink RX1 39 "MarchHares$Down" "strength" "[I" : Cond) ∈ wsX1_strike := mbX1_strike 326 (by decide +kernel)
theorem uw_X1_strike_iniRX10 : (.initialized RX10 : Cond) ∈ wsX1_strike := mbX1_strike 2 (by decide +kernel)
theorem uw_X1_strike_stX10_holds : (.static yX10_holds : Cond) ∈ wsX1_strike := mbX1_strike 2052 (by decide +kernel)
set_option maxHeartbeats 4000000 in
set_option maxRecDepth 100000 in
theorem kb_X1_strike_74 {p : Program} {l : Launch} {e : Env} {s : State} {m : MethodId} {args : Array Value} {below : List Frame} {meth : Method} {c : Code} {A : Nat → Prop} (dC : Nat → ClassId) (dI : Nat → Nat → Nat) (cyB cyI cyJ cyP : ClassId) (a0 jfB jch jip : Nat) (jcD jhx jhp jhq jgi jgj jgk jfR jgl jgO jfS : Value) (jc5 jjn : Int32) (jjx : Nat → Int32) (Q : (Nat → Int32) → Prop) (K7 : (Nat → Int32) → Int32 → Int32 → Prop) (hK7 : ∀ (H : Heap) (locs : List Loc) (ls : Array Slot) (jdE : Nat → Int32) (l1 l2 : Int32), va_P (dC, dI) vwCl (wd00_10 a0 jch jcD jfB jhx jfB jhp jhq jgi jgj jgk jip jfR jgl jgO jc5 jfS jjn jch cyI jdE jip cyI jjx) H → va_D A (wd00_10 a0 jch jcD jfB jhx jfB jhp jhq jgi jgj jgk jip jfR jgl jgO jc5 jfS jjn jch cyI jdE jip cyI jjx) → va_S A s.heap H locs → lv_has ls 3 [(0, .ref a0), (1, .int l1), (2, .int l2)] → K7 jdE l1 l2 → W p l e (headSpec wsX1_strike ({ frames := 3, cells := 0, slots := 0, locals := 64 })).room s m args below meth c H locs 0 0 (MQ below (va_Qv (fun (u : (Nat → Int32)) => Q u) (cB (dC, dI) (kT cyB cyI cyJ cyP) A (fun u : (Nat → Int32) => ((wd00_10 a0 jch jcD jfB jhx jfB jhp jhq jgi jgj jgk jip jfR jgl jgO jc5 jfS jjn jch cyI u jip cyI jjx) : va_W))) A) args s 0 0 A) (F0 m 7 ls [])) (C0 : cfx p s m args meth c cX1_strike none wsX1_strike RX1 3 A (dC, dI) (kT cyB cyI cyJ cyP)) : ∀ (H : Heap) (locs : List Loc) (ls : Array Slot) (jdE : Nat → Int32) (l1 l2 : Int32), va_P (dC, dI) vwCl (wd00_10 a0 jch jcD jfB jhx jfB jhp jhq jgi jgj jgk jip jfR jgl jgO jc5 jfS jjn jch cyI jdE jip cyI jjx) H → va_D A (wd00_10 a0 jch jcD jfB jhx jfB jhp jhq jgi jgj jgk jip jfR jgl jgO jc5 jfS jjn jch cyI jdE jip cyI jjx) → va_S A s.heap H locs → lv_has ls 3 [(0, .ref a0), (1, .int l1), (2, .int l2)] → wb_X1_strike_74 jc5 jjn jjx Q K7 jdE l1 l2 → W p l e (headSpec wsX1_strike ({ frames := 3, cells := 0, slots := 0, locals := 64 })).room s m args below meth c H locs 0 0 (MQ below (va_Qv (fun (u : (Nat → Int32)) => Q u) (cB (dC, dI) (kT cyB cyI cyJ cyP) A (fun u : (Nat → Int32) => ((wd00_10 a0 jch jcD jfB jhx jfB jhp jhq jgi jgj jgk jip jfR jgl jgO jc5 jfS jjn jch cyI u jip cyI jjx) : va_W))) A) args s 0 0 A) (F0 m 74 ls []) := by
  obtain ⟨hx, hb, hr, hts, hown, hlocks, hml, hA, hK, hNw⟩ := id C0
  intro H locs ls jdE l1 l2 hP hD hS hl hw
  obtain ⟨x14, ex14⟩ : ∃ y : Int32, y = l2 + 1 := ⟨_, rfl⟩
  have hw := hw x14 ex14
  refine lv_iinc (v := x14) (lv' := [(2, .int x14), (0, .ref a0), (1, .int l1)]) hx hb (dt_of tkX1_strike_k53 14 rfl) hl (k := 2) rfl (by rw [ex14]; rfl) (by decide) rfl (fun ls hl => ?_)
  refine lv_goto (tgt := 7) hx hb (dt_of tkX1_strike_k53 15 rfl) (by decide) ?_
  exact hK7 _ _ _ jdE l1 x14 hP hD hS (lv_sub hl [1, 2, 0] rfl) hw
set_option maxHeartbeats 4000000 in
set_option maxRecDepth 100000 in
theorem kl_X1_strike_7 {p : Program} {l : Launch} {e : Env} {s : State} {m : MethodId} {args : Array Value} {below : List Frame} {meth : Method} {c : Code} {A : Nat → Prop} (dC : Nat → ClassId) (dI : Nat → Nat → Nat) (cyB cyI cyJ cyP : ClassId) (a0 jfB jch jip : Nat) (jcD jhx jhp jhq jgi jgj jgk jfR jgl jgO jfS : Value) (jc5 jjn : Int32) (jjx : Nat → Int32) (Q : (Nat → Int32) → Prop)  (C0 : cfx p s m args meth c cX1_strike none wsX1_strike RX1 3 A (dC, dI) (kT cyB cyI cyJ cyP)) : ∀ (n : Nat) (H : Heap) (locs : List Loc) (ls : Array Slot) (jdE : Nat → Int32) (l1 l2 : Int32), va_P (dC, dI) vwCl (wd00_10 a0 jch jcD jfB jhx jfB jhp jhq jgi jgj jgk jip jfR jgl jgO jc5 jfS jjn jch cyI jdE jip cyI jjx) H → va_D A (wd00_10 a0 jch jcD jfB jhx jfB jhp jhq jgi jgj jgk jip jfR jgl jgO jc5 jfS jjn jch cyI jdE jip cyI jjx) → va_S A s.heap H locs → lv_has ls 3 [(0, .ref a0), (1, .int l1), (2, .int l2)] → wl_X1_strike_7 jc5 jjn jjx Q  n jdE l1 l2 → W p l e (headSpec wsX1_strike ({ frames := 3, cells := 0, slots := 0, locals := 64 })).room s m args below meth c H locs 0 0 (MQ below (va_Qv (fun (u : (Nat → Int32)) => Q u) (cB (dC, dI) (kT cyB cyI cyJ cyP) A (fun u : (Nat → Int32) => ((wd00_10 a0 jch jcD jfB jhx jfB jhp jhq jgi jgj jgk jip jfR jgl jgO jc5 jfS jjn jch cyI u jip cyI jjx) : va_W))) A) args s 0 0 A) (F0 m 7 ls []) := by
  obtain ⟨hx, hb, hr, hts, hown, hlocks, hml, hA, hK, hNw⟩ := id C0
  intro n
  induction n with
  | zero => intro H locs ls jdE l1 l2 hP hD hS hl hw; exact False.elim hw
  | succ n ih =>
    intro H locs ls jdE l1 l2 hP hD hS hl hw
    refine lv_iload_n hx hb (dt_of tkX1_strike_k0 5 rfl) rfl (lv_at hl 2 rfl) ?_
    refine lv_aload_n hx hb (dt_of tkX1_strike_k0 6 rfl) rfl (lv_at hl 0 rfl) ?_
    refine va_get (D := (dC, dI)) (ci := 1) (v := .ref jfB) (C := RX1) (T := TX1) (N := 4) hx hb hts ui_X1_strike_X1 hown hK hP 0 rfl rfl 2 (by decide) (hts _ uw_X1_strike_f24) (fun _ h9 => h9) rfl (dt_of tkX1_strike_k0 7 rfl) ?_
    refine va_get (D := (dC, dI)) (ci := 2) (v := .int jc5) (C := RX2) (T := TX2) (N := 12) hx hb hts ui_X1_strike_X2 hown hK hP 1 rfl rfl 9 (by decide) (hts _ uw_X1_strike_f32) (fun _ h9 => h9) rfl (dt_of tkX1_strike_k0 8 rfl) ?_
    refine lv_icmp_ge (tgt := 80) hx hb (dt_of tkX1_strike_k0 9 rfl) (by decide) (fun c2 => ?_) (fun c2 => ?_)
    · have hw := hw.1 c2
      exact ((W.vret hx hb hr (fun t ht hW => ⟨⟨(jdE), rfl, hw, by rw [ht]; exact hP, va_K.moved hW.alike hK, hD⟩, hS.F ht⟩) hS.2.2 (dt_of tkX1_strike_k80 0 rfl)))
    · have hw := hw.2 c2
      refine lv_iload_n hx hb (dt_of tkX1_strike_k0 10 rfl) rfl (lv_at hl 1 rfl) ?_
      refine lv_iload_n hx hb (dt_of tkX1_strike_k0 11 rfl) rfl (lv_at hl 2 rfl) ?_
      obtain ⟨hCc, hPc, hDc, hFc⟩ := va_pick (ws' := []) hP hD hS hA [] (by decide +kernel) rfl
      refine va_calli (va_runSN (As := [.int l1, .int l2]) (rest := []) ⟨hx, hb, hml, hown, hts⟩ (ck_X10_holds l dC dI cyB cyI cyJ cyP  H.size    l1 l2 hw) ⟨(va_cnB 2 hts gX1_strike_X10_holds_n120 rfl rfl rfl (nw_9 hNw) (hts _ uw_X1_strike_iniRX10) (by decide +kernel) ⟨Nat.le_of_ble_eq_true rfl, Nat.le_of_ble_eq_true rfl⟩), (hts _ uw_X1_strike_stX10_holds), trivial⟩ ⟨cPc_blind, cPc_pre hPc hK hDc hNw⟩ rfl rfl hl.1 rfl (lv_room (Nat.le_of_ble_eq_true rfl)) (dt_of tkX1_strike_k0 12 rfl) ⟨Nat.le_of_ble_eq_true rfl, Nat.le_of_ble_eq_true rfl⟩) hS (fun q _ h => hFc q h) hFc (fun r3 u t H1 locs ht hvm hw hB hz1 hk1 hS => ?_)
      obtain ⟨hP1, hK1, hD1⟩ := hB
      rw [ht] at hP1
      obtain ⟨hP, hD⟩ := va_joinI (wr := (wd00_10 a0 jch jcD jfB jhx jfB jhp jhq jgi jgj jgk jip jfR jgl jgO jc5 jfS jjn jch cyI jdE jip cyI jjx)) (w1 := []) (wn := (wd00_10 a0 jch jcD jfB jhx jfB jhp jhq jgi jgj jgk jip jfR jgl jgO jc5 jfS jjn jch cyI jdE jip cyI jjx)) hP hD [] [0, 1, 2, 3] hCc rfl (by decide +kernel) (by decide +kernel) rfl hk1 hFc hP1 hD1
      generalize H1 = H at hP hS ⊢
      refine lv_if_eq (tgt := 46) hx hb (dt_of tkX1_strike_k0 13 rfl) (by decide) (fun c4 => ?_) (fun c4 => ?_)
      · have hw := hw.1 c4
        refine lv_aload_n hx hb (dt_of tkX1_strike_k30 12 rfl) rfl (lv_at hl 0 rfl) ?_
        refine va_get (D := (dC, dI)) (ci := 1) (v := .ref jch) (C := RX1) (T := TX1) (N := 4) hx hb hts ui_X1_strike_X1 hown hK hP 0 rfl rfl 0 (by decide) (hts _ uw_X1_strike_f13) (fun _ h9 => h9) rfl (dt_of tkX1_strike_k30 13 rfl) ?_
        refine lv_bipush (v := 10) hx hb (dt_of tkX1_strike_k30 14 rfl) (by decide) ?_
        refine lv_iload_n hx hb (dt_of tkX1_strike_k30 15 rfl) rfl (lv_at hl 2 rfl) ?_
        refine lv_iadd hx hb (dt_of tkX1_strike_k53 0 rfl) ?_
        refine lv_topi (fun x5 ex5 => ?_)
        have hw := hw x5 ex5
        refine lv_aload_n hx hb (dt_of tkX1_strike_k53 1 rfl) rfl (lv_at hl 0 rfl) ?_
        refine va_get (D := (dC, dI)) (ci := 1) (v := .ref jfB) (C := RX1) (T := TX1) (N := 4) hx hb hts ui_X1_strike_X1 hown hK hP 0 rfl rfl 2 (by decide) (hts _ uw_X1_strike_f24) (fun _ h9 => h9) rfl (dt_of tkX1_strike_k53 2 rfl) ?_
        refine va_get (D := (dC, dI)) (ci := 2) (v := .ref jip) (C := RX2) (T := TX2) (N := 12) hx hb hts ui_X1_strike_X2 hown hK hP 1 rfl rfl 5 (by decide) (hts _ uw_X1_strike_f39) (fun _ h9 => h9) rfl (dt_of tkX1_strike_k53 3 rfl) ?_
        refine lv_iload_n hx hb (dt_of tkX1_strike_k53 4 rfl) rfl (lv_at hl 2 rfl) ?_
        obtain ⟨hi9, hw⟩ := hw
        refine va_iald hx hb hK hP 3 1 rfl rfl hi9 (dt_of tkX1_strike_k53 5 rfl) ?_
        refine lv_topi (fun x6 ex6 => ?_)
        have hw := hw x6 ex6
        obtain ⟨hi9, hw⟩ := hw
        refine va_iast hx hb hK hP hD hS 2 1 rfl rfl hi9 (dt_of tkX1_strike_k53 6 rfl) (fun H locs hP hD hS => ?_)
        obtain ⟨f7, ef7⟩ : ∃ y : Nat → Int32, y = upd jdE x5.toNatClampNeg x6 := ⟨_, rfl⟩
        have hw := hw f7 ef7
        have hP : va_P (dC, dI) vwCl (wd00_10 a0 jch jcD jfB jhx jfB jhp jhq jgi jgj jgk jip jfR jgl jgO jc5 jfS jjn jch cyI f7 jip cyI jjx) H := by rw [ef7]; exact hP
        have hD : va_D A (wd00_10 a0 jch jcD jfB jhx jfB jhp jhq jgi jgj jgk jip jfR jgl jgO jc5 jfS jjn jch cyI f7 jip cyI jjx) := by rw [ef7]; exact hD
        refine lv_aload_n hx hb (dt_of tkX1_strike_k53 7 rfl) rfl (lv_at hl 0 rfl) ?_
        refine va_get (D := (dC, dI)) (ci := 1) (v := .ref jch) (C := RX1) (T := TX1) (N := 4) hx hb hts ui_X1_strike_X1 hown hK hP 0 rfl rfl 0 (by decide) (hts _ uw_X1_strike_f13) (fun _ h9 => h9) rfl (dt_of tkX1_strike_k53 8 rfl) ?_
        refine lv_bipush (v := 16) hx hb (dt_of tkX1_strike_k53 9 rfl) (by decide) ?_
        refine lv_iload_n hx hb (dt_of tkX1_strike_k53 10 rfl) rfl (lv_at hl 2 rfl) ?_
        refine lv_iadd hx hb (dt_of tkX1_strike_k53 11 rfl) ?_
        refine lv_topi (fun x8 ex8 => ?_)
        have hw := hw x8 ex8
        refine lv_iconst (v := 0) hx hb (dt_of tkX1_strike_k53 12 rfl) (by decide) ?_
        obtain ⟨hi9, hw⟩ := hw
        refine va_iast hx hb hK hP hD hS 2 1 rfl rfl hi9 (dt_of tkX1_strike_k53 13 rfl) (fun H locs hP hD hS => ?_)
        obtain ⟨f9, ef9⟩ : ∃ y : Nat → Int32, y = upd f7 x8.toNatClampNeg 0 := ⟨_, rfl⟩
        have hw := hw f9 ef9
        have hP : va_P (dC, dI) vwCl (wd00_10 a0 jch jcD jfB jhx jfB jhp jhq jgi jgj jgk jip jfR jgl jgO jc5 jfS jjn jch cyI f9 jip cyI jjx) H := by rw [ef9]; exact hP
        have hD : va_D A (wd00_10 a0 jch jcD jfB jhx jfB jhp jhq jgi jgj jgk jip jfR jgl jgO jc5 jfS jjn jch cyI f9 jip cyI jjx) := by rw [ef9]; exact hD
        exact kb_X1_strike_74 dC dI cyB cyI cyJ cyP a0 jfB jch jip jcD jhx jhp jhq jgi jgj jgk jfR jgl jgO jfS jc5 jjn jjx Q (wl_X1_strike_7 jc5 jjn jjx Q  n) ih C0 _ _ _ f9 l1 l2 hP hD hS (lv_sub hl [0, 1, 2] rfl) hw
      · have hw := hw.2 c4
        refine lv_aload_n hx hb (dt_of tkX1_strike_k0 14 rfl) rfl (lv_at hl 0 rfl) ?_
        refine va_get (D := (dC, dI)) (ci := 1) (v := .ref jch) (C := RX1) (T := TX1) (N := 4) hx hb hts ui_X1_strike_X1 hown hK hP 0 rfl rfl 0 (by decide) (hts _ uw_X1_strike_f13) (fun _ h9 => h9) rfl (dt_of tkX1_strike_k0 15 rfl) ?_
        refine lv_iconst (v := 2) hx hb (dt_of tkX1_strike_k30 0 rfl) (by decide) ?_
        refine lv_dup2_11 hx hb (dt_of tkX1_strike_k30 1 rfl) rfl rfl ?_
        refine va_iald hx hb hK hP 2 1 rfl rfl (vin (by decide)) (dt_of tkX1_strike_k30 2 rfl) ?_
        refine lv_topi (fun x10 ex10 => ?_)
        have hw := hw x10 ex10
        refine lv_iconst (v := 1) hx hb (dt_of tkX1_strike_k30 3 rfl) (by decide) ?_
        refine lv_iload_n hx hb (dt_of tkX1_strike_k30 4 rfl) rfl (lv_at hl 2 rfl) ?_
        refine lv_ishl hx hb (dt_of tkX1_strike_k30 5 rfl) ?_
        refine lv_ior hx hb (dt_of tkX1_strike_k30 6 rfl) ?_
        refine lv_topi (fun x11 ex11 => ?_)
        have hw := hw x11 ex11
        refine va_iast hx hb hK hP hD hS 2 1 rfl rfl (vin (by decide)) (dt_of tkX1_strike_k30 7 rfl) (fun H locs hP hD hS => ?_)
        obtain ⟨f12, ef12⟩ : ∃ y : Nat → Int32, y = upd jdE (2 : Int32).toNatClampNeg x11 := ⟨_, rfl⟩
        have hw := hw f12 ef12
        have hP : va_P (dC, dI) vwCl (wd00_10 a0 jch jcD jfB jhx jfB jhp jhq jgi jgj jgk jip jfR jgl jgO jc5 jfS jjn jch cyI f12 jip cyI jjx) H := by rw [ef12]; exact hP
        have hD : va_D A (wd00_10 a0 jch jcD jfB jhx jfB jhp jhq jgi jgj jgk jip jfR jgl jgO jc5 jfS jjn jch cyI f12 jip cyI jjx) := by rw [ef12]; exact hD
        refine lv_aload_n hx hb (dt_of tkX1_strike_k30 8 rfl) rfl (lv_at hl 0 rfl) ?_
        refine lv_iload_n hx hb (dt_of tkX1_strike_k30 9 rfl) rfl (lv_at hl 2 rfl) ?_
        obtain ⟨hCc, hPc, hDc, hFc⟩ := va_pick (ws' := (wd00_11 a0 jch jcD jfB jhx jfB jhp jhq jgi jgj jgk jip jfR jgl jgO jc5 jfS jjn jch cyI f12)) hP hD hS hA [0, 1, 2] (by decide +kernel) rfl
        refine va_callv (va_runV (As := [.int l2]) (rest := []) ⟨hx, hb, hml, hown, hts⟩ (ck_X1_dropDebts l dC dI cyB cyI cyJ cyP a0 jfB jch H.size (jcD) (jhx) (jhp) (jhq) (jgi) (jgj) (jgk) (.ref jip) (jfR) (jgl) (jgO) (jfS) (.int jjn) jc5 f12 l2 hw) (cwV 1 hts gX1_strike_X1_dropDebts rfl rfl rfl (by decide +kernel) ⟨Nat.le_of_ble_eq_true rfl, Nat.le_of_ble_eq_true rfl⟩) ⟨cPc_blind, va_recv (q := (RX1, TX1, 4)) hK hPc (ci := 1) (q0 := 0) rfl rfl, cPc_pre hPc hK hDc hNw⟩ rfl rfl hl.1 rfl (lv_room (Nat.le_of_ble_eq_true rfl)) (dt_of tkX1_strike_k30 10 rfl) ⟨Nat.le_of_ble_eq_true rfl, Nat.le_of_ble_eq_true rfl⟩) hS (fun q _ h => hFc q h) hFc (fun u t H1 locs ht hvm hw hB hz1 hk1 hS => ?_)
        obtain ⟨f13, rfl⟩ : ∃ z, z = u := ⟨_, rfl⟩
        obtain ⟨hP1, hK1, hD1⟩ := hB
        rw [ht] at hP1
        obtain ⟨hP, hD⟩ := va_joinN (wr := (wd00_12 jip cyI jjx)) (w1 := (wd00_11 a0 jch jcD jfB jhx jfB jhp jhq jgi jgj jgk jip jfR jgl jgO jc5 jfS jjn jch cyI f13)) (wn := (wd00_10 a0 jch jcD jfB jhx jfB jhp jhq jgi jgj jgk jip jfR jgl jgO jc5 jfS jjn jch cyI f13 jip cyI jjx)) hP hD [0, 1, 2] [3] [1, 2, 3, 0] hCc rfl (by decide +kernel) (by decide +kernel) (by decide +kernel) rfl hk1 hFc hP1 hD1
        generalize H1 = H at hP hS ⊢
        refine lv_goto (tgt := 74) hx hb (dt_of tkX1_strike_k30 11 rfl) (by decide) ?_
        exact kb_X1_strike_74 dC dI cyB cyI cyJ cyP a0 jfB jch jip jcD jhx jhp jhq jgi jgj jgk jfR jgl jgO jfS jc5 jjn jjx Q (wl_X1_strike_7 jc5 jjn jjx Q  n) ih C0 _ _ _ f13 l1 l2 hP hD hS (lv_sub hl [0, 1, 2] rfl) hw
set_option maxHeartbeats 4000000 in
set_option maxRecDepth 100000 in
theorem ck_X1_strike (l : Launch) (dC : Nat → ClassId) (dI : Nat → Nat → Nat) (cyB cyI cyJ cyP : ClassId) (a0 jfB jch jip sz : Nat) (jcD jhx jhp jhq jgi jgj jgk jfR jgl jgO jfS : Value) (jc5 jjn : Int32) (jjx jdE : Nat → Int32)  {Q : (Nat → Int32) → Prop} (hw : wq_X1_strike jc5 jjn jjx jdE  Q) : Met l yX1_strike wsX1_strike ({ frames := 3, cells := 0, slots := 0, locals := 64 }) (va_Pc [.ref a0] (cPc (dC, dI) (kT cyB cyI cyJ cyP) (wd00_10 a0 jch jcD jfB jhx jfB jhp jhq jgi jgj jgk jip jfR jgl jgO jc5 jfS jjn jch cyI jdE jip cyI jjx) sz)) (va_Qv (fun (u : (Nat → Int32)) => Q u) (cB (dC, dI) (kT cyB cyI cyJ cyP) (va_A (wd00_10 a0 jch jcD jfB jhx jfB jhp jhq jgi jgj jgk jip jfR jgl jgO jc5 jfS jjn jch cyI jdE jip cyI jjx) sz) (fun u : (Nat → Int32) => ((wd00_10 a0 jch jcD jfB jhx jfB jhp jhq jgi jgj jgk jip jfR jgl jgO jc5 jfS jjn jch cyI u jip cyI jjx) : va_W))) (va_A (wd00_10 a0 jch jcD jfB jhx jfB jhp jhq jgi jgj jgk jip jfR jgl jgO jc5 jfS jjn jch cyI jdE jip cyI jjx) sz)) 0 0 (va_A (wd00_10 a0 jch jcD jfB jhx jfB jhp jhq jgi jgj jgk jip jfR jgl jgO jc5 jfS jjn jch cyI jdE jip cyI jjx) sz) := by
  refine Met.ofW (cc := cX1_strike) (maxL := 3) (ret := none) (by decide) rfl ?_
  intro p e s m args below meth c s₁ B hml hv
  obtain ⟨rfl, hsz, hP, hK, hD0, hNw⟩ := hv
  have hx := B.exec
  have hb := B.bytes
  have hr := B.returns
  have hts := atoms_spec (ws := wsX1_strike) B.pre
  have hown : s.vm.findClass RX1 = some m.cls := findClass_of_methodNamed B.named
  have hlocks := B.notSynchronized
  subst hsz
  have hD := hD0.self (sz := s.heap.size)
  generalize hAe : va_A (wd00_10 a0 jch jcD jfB jhx jfB jhp jhq jgi jgj jgk jip jfR jgl jgO jc5 jfS jjn jch cyI jdE jip cyI jjx) s.heap.size = A at hD ⊢
  have hA : ∀ q : Nat, s.heap.size ≤ q → A q := fun q h => by rw [← hAe]; exact Or.inr h
  have hS : va_S A s.heap s.heap [] := va_S.rf
  have hP : va_P (dC, dI) vwCl (wd00_10 a0 jch jcD jfB jhx jfB jhp jhq jgi jgj jgk jip jfR jgl jgO jc5 jfS jjn jch cyI jdE jip cyI jjx) s.heap := hP
  have hl := lv_entry ([.ref a0]) (n := 3) (Nat.le_of_ble_eq_true rfl)
  rw [lg_entry_eq]
  generalize (lg_sl ([.ref a0]) ++ List.replicate (3 - (lg_sl ([.ref a0])).length) Slot.unset).toArray = ls at hl ⊢
  have hl : lv_has ls 3 [(0, .ref a0)] := hl
  have C0 : cfx p s m _ meth c cX1_strike none wsX1_strike RX1 3 A (dC, dI) (kT cyB cyI cyJ cyP) := ⟨hx, hb, hr, hts, hown, hlocks, hml, hA, hK, hNw⟩
  clear hAe
  obtain ⟨H, hH⟩ : ∃ H, H = s.heap := ⟨_, rfl⟩
  rw [← hH] at hP ⊢
  have hS : va_S A s.heap H [] := by rw [hH]; exact va_S.rf
  have hS := hS
  refine lv_aload_n hx hb (dt_of tkX1_strike_k0 0 rfl) rfl (lv_at hl 0 rfl) ?_
  obtain ⟨hCc, hPc, hDc, hFc⟩ := va_pick (ws' := (wd00_11 a0 jch jcD jfB jhx jfB jhp jhq jgi jgj jgk jip jfR jgl jgO jc5 jfS jjn jch cyI jdE)) hP hD hS hA [0, 1, 2] (by decide +kernel) rfl
  refine va_calli (va_runV (As := []) (rest := []) ⟨hx, hb, hml, hown, hts⟩ (ck_X1_endangered l dC dI cyB cyI cyJ cyP a0 jfB jch H.size (jcD) (jhx) (jhp) (jhq) (jgi) (jgj) (jgk) (.ref jip) (jfR) (jgl) (jgO) (jfS) jc5 jjn jdE   hw) (cwV 0 hts gX1_strike_X1_endangered rfl rfl rfl (by decide +kernel) ⟨Nat.le_of_ble_eq_true rfl, Nat.le_of_ble_eq_true rfl⟩) ⟨cPc_blind, va_recv (q := (RX1, TX1, 4)) hK hPc (ci := 1) (q0 := 0) rfl rfl, cPc_pre hPc hK hDc hNw⟩ rfl rfl hl.1 rfl (lv_room (Nat.le_of_ble_eq_true rfl)) (dt_of tkX1_strike_k0 1 rfl) ⟨Nat.le_of_ble_eq_true rfl, Nat.le_of_ble_eq_true rfl⟩) hS (fun q _ h => hFc q h) hFc (fun r1 u t H1 locs ht hvm hw hB hz1 hk1 hS => ?_)
  obtain ⟨hP1, hK1, hD1⟩ := hB
  rw [ht] at hP1
  obtain ⟨hP, hD⟩ := va_joinN (wr := (wd00_12 jip cyI jjx)) (w1 := (wd00_11 a0 jch jcD jfB jhx jfB jhp jhq jgi jgj jgk jip jfR jgl jgO jc5 jfS jjn jch cyI jdE)) (wn := (wd00_10 a0 jch jcD jfB jhx jfB jhp jhq jgi jgj jgk jip jfR jgl jgO jc5 jfS jjn jch cyI jdE jip cyI jjx)) hP hD [0, 1, 2] [3] [1, 2, 3, 0] hCc rfl (by decide +kernel) (by decide +kernel) (by decide +kernel) rfl hk1 hFc hP1 hD1
  generalize H1 = H at hP hS ⊢
  refine lv_istore_n (lv' := [(1, .int r1), (0, .ref a0)]) hx hb (dt_of tkX1_strike_k0 2 rfl) rfl hl (by decide) rfl (fun ls hl => ?_)
  refine lv_iconst (v := 0) hx hb (dt_of tkX1_strike_k0 3 rfl) (by decide) ?_
  refine lv_istore_n (lv' := [(2, .int 0), (1, .int r1), (0, .ref a0)]) hx hb (dt_of tkX1_strike_k0 4 rfl) rfl hl (by decide) rfl (fun ls hl => ?_)
  obtain ⟨n9, hw⟩ := hw
  exact kl_X1_strike_7 dC dI cyB cyI cyJ cyP a0 jfB jch jip jcD jhx jhp jhq jgi jgj jgk jfR jgl jgO jfS jc5 jjn jjx Q  C0 n9 _ _ _ jdE r1 0 hP hD hS (lv_sub hl [2, 1, 0] rfl) hw
theorem ui_X1_passDay_X1 : ∀ w ∈ u_ws RX1 TX1 4, w ∈ wsX1_passDay := uiM mbX1_passDay euX1 (by decide +kernel)
theorem ui_X1_passDay_X2 : ∀ w ∈ u_ws RX2 TX2 12, w ∈ wsX1_passDay := uiM mbX1_passDay euX2 (by decide +kernel)
theorem uw_X1_passDay_f13 : (.fieldLink RX1 13 "MarchHares$Days" "row" "[I" : Cond) ∈ wsX1_passDay := mbX1_passDay 276 (by decide +kernel)
theorem uw_X1_passDay_f24 : (.fieldLink RX1 24 "MarchHares$Days" "down" "LMarchHares$Down;" : Cond) ∈ wsX1_passDay := mbX1_passDay 322 (by decide +kernel)
theorem uw_X1_passDay_f32 : (.fieldLink RX1 32 "MarchHares$Down" "hares" "I" : Cond) ∈ wsX1_passDay := mbX1_passDay 324 (by decide +kernel)
theorem uw_X1_passDay_iniRX10 : (.initialized RX10 : Cond) ∈ wsX1_passDay := mbX1_passDay 2 (by decide +kernel)
theorem uw_X1_passDay_stX10_holds : (.static yX10_holds : Cond) ∈ wsX1_passDay := mbX1_passDay 2052 (by decide +kernel)
set_option maxHeartbeats 4000000 in
set_option maxRecDepth 100000 in
theorem kb_X1_passDay_46 {p : Program} {l : Launch} {e : Env} {s : State} {m : MethodId} {args : Array Value} {below : List Frame} {meth : Method} {c : Code} {A : Nat → Prop} (dC : Nat → ClassId) (dI : Nat → Nat → Nat) (cyB cyI cyJ cyP : ClassId) (a0 jfB jch jip : Nat) (jcD jhx jhp jhq jgi jgj jgk jfR jgl jgO jfS : Value) (jc5 jjn : Int32) (jjx : Nat → Int32) (Q : (Nat → Int32) → Prop) (K2 : (Nat → Int32) → Int32 → Prop) (hK2 : ∀ (H : Heap) (locs : List Loc) (ls : Array Slot) (jdE : Nat → Int32) (l1 : Int32), va_P (dC, dI) vwCl (wd00_10 a0 jch jcD jfB jhx jfB jhp jhq jgi jgj jgk jip jfR jgl jgO jc5 jfS jjn jch cyI jdE jip cyI jjx) H → va_D A (wd00_10 a0 jch jcD jfB jhx jfB jhp jhq jgi jgj jgk jip jfR jgl jgO jc5 jfS jjn jch cyI jdE jip cyI jjx) → va_S A s.heap H locs → lv_has ls 2 [(0, .ref a0), (1, .int l1)] → K2 jdE l1 → W p l e (headSpec wsX1_passDay ({ frames := 4, cells := 0, slots := 0, locals := 86 })).room s m args below meth c H locs 0 0 (MQ below (va_Qv (fun (u : (Nat → Int32)) => Q u) (cB (dC, dI) (kT cyB cyI cyJ cyP) A (fun u : (Nat → Int32) => ((wd00_10 a0 jch jcD jfB jhx jfB jhp jhq jgi jgj jgk jip jfR jgl jgO jc5 jfS jjn jch cyI u jip cyI jjx) : va_W))) A) args s 0 0 A) (F0 m 2 ls [])) (C0 : cfx p s m args meth c cX1_passDay none wsX1_passDay RX1 2 A (dC, dI) (kT cyB cyI cyJ cyP)) : ∀ (H : Heap) (locs : List Loc) (ls : Array Slot) (jdE : Nat → Int32) (l1 : Int32), va_P (dC, dI) vwCl (wd00_10 a0 jch jcD jfB jhx jfB jhp jhq jgi jgj jgk jip jfR jgl jgO jc5 jfS jjn jch cyI jdE jip cyI jjx) H → va_D A (wd00_10 a0 jch jcD jfB jhx jfB jhp jhq jgi jgj jgk jip jfR jgl jgO jc5 jfS jjn jch cyI jdE jip cyI jjx) → va_S A s.heap H locs → lv_has ls 2 [(0, .ref a0), (1, .int l1)] → wb_X1_passDay_46 jc5 jjn jjx Q K2 jdE l1 → W p l e (headSpec wsX1_passDay ({ frames := 4, cells := 0, slots := 0, locals := 86 })).room s m args below meth c H locs 0 0 (MQ below (va_Qv (fun (u : (Nat → Int32)) => Q u) (cB (dC, dI) (kT cyB cyI cyJ cyP) A (fun u : (Nat → Int32) => ((wd00_10 a0 jch jcD jfB jhx jfB jhp jhq jgi jgj jgk jip jfR jgl jgO jc5 jfS jjn jch cyI u jip cyI jjx) : va_W))) A) args s 0 0 A) (F0 m 46 ls []) := by
  obtain ⟨hx, hb, hr, hts, hown, hlocks, hml, hA, hK, hNw⟩ := id C0
  intro H locs ls jdE l1 hP hD hS hl hw
  obtain ⟨x21, ex21⟩ : ∃ y : Int32, y = l1 + 1 := ⟨_, rfl⟩
  have hw := hw x21 ex21
  refine lv_iinc (v := x21) (lv' := [(1, .int x21), (0, .ref a0)]) hx hb (dt_of tkX1_passDay_k26 13 rfl) hl (k := 1) rfl (by rw [ex21]; rfl) (by decide) rfl (fun ls hl => ?_)
  refine lv_goto (tgt := 2) hx hb (dt_of tkX1_passDay_k26 14 rfl) (by decide) ?_
  exact hK2 _ _ _ jdE x21 hP hD hS (lv_sub hl [1, 0] rfl) hw
set_option maxHeartbeats 4000000 in
set_option maxRecDepth 100000 in
theorem kl_X1_passDay_2 {p : Program} {l : Launch} {e : Env} {s : State} {m : MethodId} {args : Array Value} {below : List Frame} {meth : Method} {c : Code} {A : Nat → Prop} (dC : Nat → ClassId) (dI : Nat → Nat → Nat) (cyB cyI cyJ cyP : ClassId) (a0 jfB jch jip : Nat) (jcD jhx jhp jhq jgi jgj jgk jfR jgl jgO jfS : Value) (jc5 jjn : Int32) (jjx : Nat → Int32) (Q : (Nat → Int32) → Prop)  (C0 : cfx p s m args meth c cX1_passDay none wsX1_passDay RX1 2 A (dC, dI) (kT cyB cyI cyJ cyP)) : ∀ (n : Nat) (H : Heap) (locs : List Loc) (ls : Array Slot) (jdE : Nat → Int32) (l1 : Int32), va_P (dC, dI) vwCl (wd00_10 a0 jch jcD jfB jhx jfB jhp jhq jgi jgj jgk jip jfR jgl jgO jc5 jfS jjn jch cyI jdE jip cyI jjx) H → va_D A (wd00_10 a0 jch jcD jfB jhx jfB jhp jhq jgi jgj jgk jip jfR jgl jgO jc5 jfS jjn jch cyI jdE jip cyI jjx) → va_S A s.heap H locs → lv_has ls 2 [(0, .ref a0), (1, .int l1)] → wl_X1_passDay_2 jc5 jjn jjx Q  n jdE l1 → W p l e (headSpec wsX1_passDay ({ frames := 4, cells := 0, slots := 0, locals := 86 })).room s m args below meth c H locs 0 0 (MQ below (va_Qv (fun (u : (Nat → Int32)) => Q u) (cB (dC, dI) (kT cyB cyI cyJ cyP) A (fun u : (Nat → Int32) => ((wd00_10 a0 jch jcD jfB jhx jfB jhp jhq jgi jgj jgk jip jfR jgl jgO jc5 jfS jjn jch cyI u jip cyI jjx) : va_W))) A) args s 0 0 A) (F0 m 2 ls []) := by
  obtain ⟨hx, hb, hr, hts, hown, hlocks, hml, hA, hK, hNw⟩ := id C0
  intro n
  induction n with
  | zero => intro H locs ls jdE l1 hP hD hS hl hw; exact False.elim hw
  | succ n ih =>
    intro H locs ls jdE l1 hP hD hS hl hw
    refine lv_iload_n hx hb (dt_of tkX1_passDay_k0 2 rfl) rfl (lv_at hl 1 rfl) ?_
    refine lv_aload_n hx hb (dt_of tkX1_passDay_k0 3 rfl) rfl (lv_at hl 0 rfl) ?_
    refine va_get (D := (dC, dI)) (ci := 1) (v := .ref jfB) (C := RX1) (T := TX1) (N := 4) hx hb hts ui_X1_passDay_X1 hown hK hP 0 rfl rfl 2 (by decide) (hts _ uw_X1_passDay_f24) (fun _ h9 => h9) rfl (dt_of tkX1_passDay_k0 4 rfl) ?_
    refine va_get (D := (dC, dI)) (ci := 2) (v := .int jc5) (C := RX2) (T := TX2) (N := 12) hx hb hts ui_X1_passDay_X2 hown hK hP 1 rfl rfl 9 (by decide) (hts _ uw_X1_passDay_f32) (fun _ h9 => h9) rfl (dt_of tkX1_passDay_k0 5 rfl) ?_
    refine lv_icmp_ge (tgt := 52) hx hb (dt_of tkX1_passDay_k0 6 rfl) (by decide) (fun c1 => ?_) (fun c1 => ?_)
    · have hw := hw.1 c1
      refine lv_aload_n hx hb (dt_of tkX1_passDay_k26 15 rfl) rfl (lv_at hl 0 rfl) ?_
      refine va_get (D := (dC, dI)) (ci := 1) (v := .ref jch) (C := RX1) (T := TX1) (N := 4) hx hb hts ui_X1_passDay_X1 hown hK hP 0 rfl rfl 0 (by decide) (hts _ uw_X1_passDay_f13) (fun _ h9 => h9) rfl (dt_of tkX1_passDay_k53 0 rfl) ?_
      refine lv_iconst (v := 3) hx hb (dt_of tkX1_passDay_k53 1 rfl) (by decide) ?_
      refine lv_iconst (v := 0) hx hb (dt_of tkX1_passDay_k53 2 rfl) (by decide) ?_
      refine va_iast hx hb hK hP hD hS 2 1 rfl rfl (vin (by decide)) (dt_of tkX1_passDay_k53 3 rfl) (fun H locs hP hD hS => ?_)
      obtain ⟨f2, ef2⟩ : ∃ y : Nat → Int32, y = upd jdE (3 : Int32).toNatClampNeg 0 := ⟨_, rfl⟩
      have hw := hw f2 ef2
      have hP : va_P (dC, dI) vwCl (wd00_10 a0 jch jcD jfB jhx jfB jhp jhq jgi jgj jgk jip jfR jgl jgO jc5 jfS jjn jch cyI f2 jip cyI jjx) H := by rw [ef2]; exact hP
      have hD : va_D A (wd00_10 a0 jch jcD jfB jhx jfB jhp jhq jgi jgj jgk jip jfR jgl jgO jc5 jfS jjn jch cyI f2 jip cyI jjx) := by rw [ef2]; exact hD
      refine lv_aload_n hx hb (dt_of tkX1_passDay_k53 4 rfl) rfl (lv_at hl 0 rfl) ?_
      refine va_get (D := (dC, dI)) (ci := 1) (v := .ref jch) (C := RX1) (T := TX1) (N := 4) hx hb hts ui_X1_passDay_X1 hown hK hP 0 rfl rfl 0 (by decide) (hts _ uw_X1_passDay_f13) (fun _ h9 => h9) rfl (dt_of tkX1_passDay_k53 5 rfl) ?_
      refine lv_iconst (v := 0) hx hb (dt_of tkX1_passDay_k53 6 rfl) (by decide) ?_
      refine lv_dup2_11 hx hb (dt_of tkX1_passDay_k53 7 rfl) rfl rfl ?_
      refine va_iald hx hb hK hP 2 1 rfl rfl (vin (by decide)) (dt_of tkX1_passDay_k53 8 rfl) ?_
      refine lv_topi (fun x3 ex3 => ?_)
      have hw := hw x3 ex3
      refine lv_iconst (v := 1) hx hb (dt_of tkX1_passDay_k53 9 rfl) (by decide) ?_
      refine lv_iadd hx hb (dt_of tkX1_passDay_k53 10 rfl) ?_
      refine lv_topi (fun x4 ex4 => ?_)
      have hw := hw x4 ex4
      refine va_iast hx hb hK hP hD hS 2 1 rfl rfl (vin (by decide)) (dt_of tkX1_passDay_k53 11 rfl) (fun H locs hP hD hS => ?_)
      obtain ⟨f5, ef5⟩ : ∃ y : Nat → Int32, y = upd f2 (0 : Int32).toNatClampNeg x4 := ⟨_, rfl⟩
      have hw := hw f5 ef5
      have hP : va_P (dC, dI) vwCl (wd00_10 a0 jch jcD jfB jhx jfB jhp jhq jgi jgj jgk jip jfR jgl jgO jc5 jfS jjn jch cyI f5 jip cyI jjx) H := by rw [ef5]; exact hP
      have hD : va_D A (wd00_10 a0 jch jcD jfB jhx jfB jhp jhq jgi jgj jgk jip jfR jgl jgO jc5 jfS jjn jch cyI f5 jip cyI jjx) := by rw [ef5]; exact hD
      refine lv_aload_n hx hb (dt_of tkX1_passDay_k53 12 rfl) rfl (lv_at hl 0 rfl) ?_
      refine va_get (D := (dC, dI)) (ci := 1) (v := .ref jch) (C := RX1) (T := TX1) (N := 4) hx hb hts ui_X1_passDay_X1 hown hK hP 0 rfl rfl 0 (by decide) (hts _ uw_X1_passDay_f13) (fun _ h9 => h9) rfl (dt_of tkX1_passDay_k53 13 rfl) ?_
      refine lv_iconst (v := 0) hx hb (dt_of tkX1_passDay_k53 14 rfl) (by decide) ?_
      refine va_iald hx hb hK hP 2 1 rfl rfl (vin (by decide)) (dt_of tkX1_passDay_k53 15 rfl) ?_
      refine lv_topi (fun x6 ex6 => ?_)
      have hw := hw x6 ex6
      refine lv_bipush (v := 31) hx hb (dt_of tkX1_passDay_k75 0 rfl) (by decide) ?_
      refine lv_icmp_le (tgt := 101) hx hb (dt_of tkX1_passDay_k75 1 rfl) (by decide) (fun c7 => ?_) (fun c7 => ?_)
      · have hw := hw.1 c7
        exact ((W.vret hx hb hr (fun t ht hW => ⟨⟨(f5), rfl, hw, by rw [ht]; exact hP, va_K.moved hW.alike hK, hD⟩, hS.F ht⟩) hS.2.2 (dt_of tkX1_passDay_k100 1 rfl)))
      · have hw := hw.2 c7
        refine lv_aload_n hx hb (dt_of tkX1_passDay_k75 2 rfl) rfl (lv_at hl 0 rfl) ?_
        obtain ⟨hCc, hPc, hDc, hFc⟩ := va_pick (ws' := (wd00_10 a0 jch jcD jfB jhx jfB jhp jhq jgi jgj jgk jip jfR jgl jgO jc5 jfS jjn jch cyI f5 jip cyI jjx)) hP hD hS hA [0, 1, 2, 3] (by decide +kernel) rfl
        refine va_callv (va_runV (As := []) (rest := []) ⟨hx, hb, hml, hown, hts⟩ (ck_X1_strike l dC dI cyB cyI cyJ cyP a0 jfB jch jip H.size (jcD) (jhx) (jhp) (jhq) (jgi) (jgj) (jgk) (jfR) (jgl) (jgO) (jfS) jc5 jjn jjx f5  hw) (cwV 0 hts gX1_passDay_X1_strike rfl rfl rfl (by decide +kernel) ⟨Nat.le_of_ble_eq_true rfl, Nat.le_of_ble_eq_true rfl⟩) ⟨cPc_blind, va_recv (q := (RX1, TX1, 4)) hK hPc (ci := 1) (q0 := 0) rfl rfl, cPc_pre hPc hK hDc hNw⟩ rfl rfl hl.1 rfl (lv_room (Nat.le_of_ble_eq_true rfl)) (dt_of tkX1_passDay_k75 3 rfl) ⟨Nat.le_of_ble_eq_true rfl, Nat.le_of_ble_eq_true rfl⟩) hS (fun q _ h => hFc q h) hFc (fun u t H1 locs ht hvm hw hB hz1 hk1 hS => ?_)
        obtain ⟨f8, rfl⟩ : ∃ z, z = u := ⟨_, rfl⟩
        obtain ⟨hP1, hK1, hD1⟩ := hB
        rw [ht] at hP1
        obtain ⟨hP, hD⟩ := va_joinI (wr := []) (w1 := (wd00_10 a0 jch jcD jfB jhx jfB jhp jhq jgi jgj jgk jip jfR jgl jgO jc5 jfS jjn jch cyI f8 jip cyI jjx)) (wn := (wd00_10 a0 jch jcD jfB jhx jfB jhp jhq jgi jgj jgk jip jfR jgl jgO jc5 jfS jjn jch cyI f8 jip cyI jjx)) hP hD [0, 1, 2, 3] [] hCc rfl (by decide +kernel) (by decide +kernel) rfl hk1 hFc hP1 hD1
        generalize H1 = H at hP hS ⊢
        refine lv_aload_n hx hb (dt_of tkX1_passDay_k75 4 rfl) rfl (lv_at hl 0 rfl) ?_
        refine va_get (D := (dC, dI)) (ci := 1) (v := .ref jch) (C := RX1) (T := TX1) (N := 4) hx hb hts ui_X1_passDay_X1 hown hK hP 0 rfl rfl 0 (by decide) (hts _ uw_X1_passDay_f13) (fun _ h9 => h9) rfl (dt_of tkX1_passDay_k75 5 rfl) ?_
        refine lv_iconst (v := 0) hx hb (dt_of tkX1_passDay_k75 6 rfl) (by decide) ?_
        refine lv_iconst (v := 1) hx hb (dt_of tkX1_passDay_k75 7 rfl) (by decide) ?_
        refine va_iast hx hb hK hP hD hS 2 1 rfl rfl (vin (by decide)) (dt_of tkX1_passDay_k75 8 rfl) (fun H locs hP hD hS => ?_)
        obtain ⟨f9, ef9⟩ : ∃ y : Nat → Int32, y = upd f8 (0 : Int32).toNatClampNeg 1 := ⟨_, rfl⟩
        have hw := hw f9 ef9
        have hP : va_P (dC, dI) vwCl (wd00_10 a0 jch jcD jfB jhx jfB jhp jhq jgi jgj jgk jip jfR jgl jgO jc5 jfS jjn jch cyI f9 jip cyI jjx) H := by rw [ef9]; exact hP
        have hD : va_D A (wd00_10 a0 jch jcD jfB jhx jfB jhp jhq jgi jgj jgk jip jfR jgl jgO jc5 jfS jjn jch cyI f9 jip cyI jjx) := by rw [ef9]; exact hD
        refine lv_aload_n hx hb (dt_of tkX1_passDay_k75 9 rfl) rfl (lv_at hl 0 rfl) ?_
        refine va_get (D := (dC, dI)) (ci := 1) (v := .ref jch) (C := RX1) (T := TX1) (N := 4) hx hb hts ui_X1_passDay_X1 hown hK hP 0 rfl rfl 0 (by decide) (hts _ uw_X1_passDay_f13) (fun _ h9 => h9) rfl (dt_of tkX1_passDay_k75 10 rfl) ?_
        refine lv_iconst (v := 1) hx hb (dt_of tkX1_passDay_k75 11 rfl) (by decide) ?_
        refine lv_dup2_11 hx hb (dt_of tkX1_passDay_k75 12 rfl) rfl rfl ?_
        refine va_iald hx hb hK hP 2 1 rfl rfl (vin (by decide)) (dt_of tkX1_passDay_k75 13 rfl) ?_
        refine lv_topi (fun x10 ex10 => ?_)
        have hw := hw x10 ex10
        refine lv_iconst (v := 1) hx hb (dt_of tkX1_passDay_k75 14 rfl) (by decide) ?_
        refine lv_iadd hx hb (dt_of tkX1_passDay_k75 15 rfl) ?_
        refine lv_topi (fun x11 ex11 => ?_)
        have hw := hw x11 ex11
        refine va_iast hx hb hK hP hD hS 2 1 rfl rfl (vin (by decide)) (dt_of tkX1_passDay_k100 0 rfl) (fun H locs hP hD hS => ?_)
        obtain ⟨f12, ef12⟩ : ∃ y : Nat → Int32, y = upd f9 (1 : Int32).toNatClampNeg x11 := ⟨_, rfl⟩
        have hw := hw f12 ef12
        have hP : va_P (dC, dI) vwCl (wd00_10 a0 jch jcD jfB jhx jfB jhp jhq jgi jgj jgk jip jfR jgl jgO jc5 jfS jjn jch cyI f12 jip cyI jjx) H := by rw [ef12]; exact hP
        have hD : va_D A (wd00_10 a0 jch jcD jfB jhx jfB jhp jhq jgi jgj jgk jip jfR jgl jgO jc5 jfS jjn jch cyI f12 jip cyI jjx) := by rw [ef12]; exact hD
        exact ((W.vret hx hb hr (fun t ht hW => ⟨⟨(f12), rfl, hw, by rw [ht]; exact hP, va_K.moved hW.alike hK, hD⟩, hS.F ht⟩) hS.2.2 (dt_of tkX1_passDay_k100 1 rfl)))
    · have hw := hw.2 c1
      refine lv_aload_n hx hb (dt_of tkX1_passDay_k0 7 rfl) rfl (lv_at hl 0 rfl) ?_
      refine va_get (D := (dC, dI)) (ci := 1) (v := .ref jch) (C := RX1) (T := TX1) (N := 4) hx hb hts ui_X1_passDay_X1 hown hK hP 0 rfl rfl 0 (by decide) (hts _ uw_X1_passDay_f13) (fun _ h9 => h9) rfl (dt_of tkX1_passDay_k0 8 rfl) ?_
      refine lv_iconst (v := 2) hx hb (dt_of tkX1_passDay_k0 9 rfl) (by decide) ?_
      refine va_iald hx hb hK hP 2 1 rfl rfl (vin (by decide)) (dt_of tkX1_passDay_k0 10 rfl) ?_
      refine lv_topi (fun x13 ex13 => ?_)
      have hw := hw x13 ex13
      refine lv_aload_n hx hb (dt_of tkX1_passDay_k0 11 rfl) rfl (lv_at hl 0 rfl) ?_
      refine va_get (D := (dC, dI)) (ci := 1) (v := .ref jch) (C := RX1) (T := TX1) (N := 4) hx hb hts ui_X1_passDay_X1 hown hK hP 0 rfl rfl 0 (by decide) (hts _ uw_X1_passDay_f13) (fun _ h9 => h9) rfl (dt_of tkX1_passDay_k0 12 rfl) ?_
      refine lv_iconst (v := 3) hx hb (dt_of tkX1_passDay_k0 13 rfl) (by decide) ?_
      refine va_iald hx hb hK hP 2 1 rfl rfl (vin (by decide)) (dt_of tkX1_passDay_k0 14 rfl) ?_
      refine lv_topi (fun x14 ex14 => ?_)
      have hw := hw x14 ex14
      refine lv_ior hx hb (dt_of tkX1_passDay_k0 15 rfl) ?_
      refine lv_iload_n hx hb (dt_of tkX1_passDay_k26 0 rfl) rfl (lv_at hl 1 rfl) ?_
      obtain ⟨hCc, hPc, hDc, hFc⟩ := va_pick (ws' := []) hP hD hS hA [] (by decide +kernel) rfl
      refine va_calli (va_runSN (As := [.int (x13 ||| x14), .int l1]) (rest := []) ⟨hx, hb, hml, hown, hts⟩ (ck_X10_holds l dC dI cyB cyI cyJ cyP  H.size    (x13 ||| x14) l1 hw) ⟨(va_cnB 2 hts gX1_passDay_X10_holds_n120 rfl rfl rfl (nw_9 hNw) (hts _ uw_X1_passDay_iniRX10) (by decide +kernel) ⟨Nat.le_of_ble_eq_true rfl, Nat.le_of_ble_eq_true rfl⟩), (hts _ uw_X1_passDay_stX10_holds), trivial⟩ ⟨cPc_blind, cPc_pre hPc hK hDc hNw⟩ rfl rfl hl.1 rfl (lv_room (Nat.le_of_ble_eq_true rfl)) (dt_of tkX1_passDay_k26 1 rfl) ⟨Nat.le_of_ble_eq_true rfl, Nat.le_of_ble_eq_true rfl⟩) hS (fun q _ h => hFc q h) hFc (fun r15 u t H1 locs ht hvm hw hB hz1 hk1 hS => ?_)
      obtain ⟨hP1, hK1, hD1⟩ := hB
      rw [ht] at hP1
      obtain ⟨hP, hD⟩ := va_joinI (wr := (wd00_10 a0 jch jcD jfB jhx jfB jhp jhq jgi jgj jgk jip jfR jgl jgO jc5 jfS jjn jch cyI jdE jip cyI jjx)) (w1 := []) (wn := (wd00_10 a0 jch jcD jfB jhx jfB jhp jhq jgi jgj jgk jip jfR jgl jgO jc5 jfS jjn jch cyI jdE jip cyI jjx)) hP hD [] [0, 1, 2, 3] hCc rfl (by decide +kernel) (by decide +kernel) rfl hk1 hFc hP1 hD1
      generalize H1 = H at hP hS ⊢
      refine lv_if_ne (tgt := 46) hx hb (dt_of tkX1_passDay_k26 2 rfl) (by decide) (fun c16 => ?_) (fun c16 => ?_)
      · have hw := hw.1 c16
        exact kb_X1_passDay_46 dC dI cyB cyI cyJ cyP a0 jfB jch jip jcD jhx jhp jhq jgi jgj jgk jfR jgl jgO jfS jc5 jjn jjx Q (wl_X1_passDay_2 jc5 jjn jjx Q  n) ih C0 _ _ _ jdE l1 hP hD hS (lv_sub hl [0, 1] rfl) hw
      · have hw := hw.2 c16
        refine lv_aload_n hx hb (dt_of tkX1_passDay_k26 3 rfl) rfl (lv_at hl 0 rfl) ?_
        refine va_get (D := (dC, dI)) (ci := 1) (v := .ref jch) (C := RX1) (T := TX1) (N := 4) hx hb hts ui_X1_passDay_X1 hown hK hP 0 rfl rfl 0 (by decide) (hts _ uw_X1_passDay_f13) (fun _ h9 => h9) rfl (dt_of tkX1_passDay_k26 4 rfl) ?_
        refine lv_bipush (v := 16) hx hb (dt_of tkX1_passDay_k26 5 rfl) (by decide) ?_
        refine lv_iload_n hx hb (dt_of tkX1_passDay_k26 6 rfl) rfl (lv_at hl 1 rfl) ?_
        refine lv_iadd hx hb (dt_of tkX1_passDay_k26 7 rfl) ?_
        refine lv_topi (fun x17 ex17 => ?_)
        have hw := hw x17 ex17
        refine lv_dup2_11 hx hb (dt_of tkX1_passDay_k26 8 rfl) rfl rfl ?_
        obtain ⟨hi9, hw⟩ := hw
        refine va_iald hx hb hK hP 2 1 rfl rfl hi9 (dt_of tkX1_passDay_k26 9 rfl) ?_
        refine lv_topi (fun x18 ex18 => ?_)
        have hw := hw x18 ex18
        refine lv_iconst (v := 1) hx hb (dt_of tkX1_passDay_k26 10 rfl) (by decide) ?_
        refine lv_iadd hx hb (dt_of tkX1_passDay_k26 11 rfl) ?_
        refine lv_topi (fun x19 ex19 => ?_)
        have hw := hw x19 ex19
        obtain ⟨hi9, hw⟩ := hw
        refine va_iast hx hb hK hP hD hS 2 1 rfl rfl hi9 (dt_of tkX1_passDay_k26 12 rfl) (fun H locs hP hD hS => ?_)
        obtain ⟨f20, ef20⟩ : ∃ y : Nat → Int32, y = upd jdE x17.toNatClampNeg x19 := ⟨_, rfl⟩
        have hw := hw f20 ef20
        have hP : va_P (dC, dI) vwCl (wd00_10 a0 jch jcD jfB jhx jfB jhp jhq jgi jgj jgk jip jfR jgl jgO jc5 jfS jjn jch cyI f20 jip cyI jjx) H := by rw [ef20]; exact hP
        have hD : va_D A (wd00_10 a0 jch jcD jfB jhx jfB jhp jhq jgi jgj jgk jip jfR jgl jgO jc5 jfS jjn jch cyI f20 jip cyI jjx) := by rw [ef20]; exact hD
        exact kb_X1_passDay_46 dC dI cyB cyI cyJ cyP a0 jfB jch jip jcD jhx jhp jhq jgi jgj jgk jfR jgl jgO jfS jc5 jjn jjx Q (wl_X1_passDay_2 jc5 jjn jjx Q  n) ih C0 _ _ _ f20 l1 hP hD hS (lv_sub hl [0, 1] rfl) hw
set_option maxHeartbeats 4000000 in
set_option maxRecDepth 100000 in
theorem ck_X1_passDay (l : Launch) (dC : Nat → ClassId) (dI : Nat → Nat → Nat) (cyB cyI cyJ cyP : ClassId) (a0 jfB jch jip sz : Nat) (jcD jhx jhp jhq jgi jgj jgk jfR jgl jgO jfS : Value) (jc5 jjn : Int32) (jjx jdE : Nat → Int32)  {Q : (Nat → Int32) → Prop} (hw : wq_X1_passDay jc5 jjn jjx jdE  Q) : Met l yX1_passDay wsX1_passDay ({ frames := 4, cells := 0, slots := 0, locals := 86 }) (va_Pc [.ref a0] (cPc (dC, dI) (kT cyB cyI cyJ cyP) (wd00_10 a0 jch jcD jfB jhx jfB jhp jhq jgi jgj jgk jip jfR jgl jgO jc5 jfS jjn jch cyI jdE jip cyI jjx) sz)) (va_Qv (fun (u : (Nat → Int32)) => Q u) (cB (dC, dI) (kT cyB cyI cyJ cyP) (va_A (wd00_10 a0 jch jcD jfB jhx jfB jhp jhq jgi jgj jgk jip jfR jgl jgO jc5 jfS jjn jch cyI jdE jip cyI jjx) sz) (fun u : (Nat → Int32) => ((wd00_10 a0 jch jcD jfB jhx jfB jhp jhq jgi jgj jgk jip jfR jgl jgO jc5 jfS jjn jch cyI u jip cyI jjx) : va_W))) (va_A (wd00_10 a0 jch jcD jfB jhx jfB jhp jhq jgi jgj jgk jip jfR jgl jgO jc5 jfS jjn jch cyI jdE jip cyI jjx) sz)) 0 0 (va_A (wd00_10 a0 jch jcD jfB jhx jfB jhp jhq jgi jgj jgk jip jfR jgl jgO jc5 jfS jjn jch cyI jdE jip cyI jjx) sz) := by
  refine Met.ofW (cc := cX1_passDay) (maxL := 2) (ret := none) (by decide) rfl ?_
  intro p e s m args below meth c s₁ B hml hv
  obtain ⟨rfl, hsz, hP, hK, hD0, hNw⟩ := hv
  have hx := B.exec
  have hb := B.bytes
  have hr := B.returns
  have hts := atoms_spec (ws := wsX1_passDay) B.pre
  have hown : s.vm.findClass RX1 = some m.cls := findClass_of_methodNamed B.named
  have hlocks := B.notSynchronized
  subst hsz
  have hD := hD0.self (sz := s.heap.size)
  generalize hAe : va_A (wd00_10 a0 jch jcD jfB jhx jfB jhp jhq jgi jgj jgk jip jfR jgl jgO jc5 jfS jjn jch cyI jdE jip cyI jjx) s.heap.size = A at hD ⊢
  have hA : ∀ q : Nat, s.heap.size ≤ q → A q := fun q h => by rw [← hAe]; exact Or.inr h
  have hS : va_S A s.heap s.heap [] := va_S.rf
  have hP : va_P (dC, dI) vwCl (wd00_10 a0 jch jcD jfB jhx jfB jhp jhq jgi jgj jgk jip jfR jgl jgO jc5 jfS jjn jch cyI jdE jip cyI jjx) s.heap := hP
  have hl := lv_entry ([.ref a0]) (n := 2) (Nat.le_of_ble_eq_true rfl)
  rw [lg_entry_eq]
  generalize (lg_sl ([.ref a0]) ++ List.replicate (2 - (lg_sl ([.ref a0])).length) Slot.unset).toArray = ls at hl ⊢
  have hl : lv_has ls 2 [(0, .ref a0)] := hl
  have C0 : cfx p s m _ meth c cX1_passDay none wsX1_passDay RX1 2 A (dC, dI) (kT cyB cyI cyJ cyP) := ⟨hx, hb, hr, hts, hown, hlocks, hml, hA, hK, hNw⟩
  clear hAe
  obtain ⟨H, hH⟩ : ∃ H, H = s.heap := ⟨_, rfl⟩
  rw [← hH] at hP ⊢
  have hS : va_S A s.heap H [] := by rw [hH]; exact va_S.rf
  have hS := hS
  refine lv_iconst (v := 0) hx hb (dt_of tkX1_passDay_k0 0 rfl) (by decide) ?_
  refine lv_istore_n (lv' := [(1, .int 0), (0, .ref a0)]) hx hb (dt_of tkX1_passDay_k0 1 rfl) rfl hl (by decide) rfl (fun ls hl => ?_)
  obtain ⟨n9, hw⟩ := hw
  exact kl_X1_passDay_2 dC dI cyB cyI cyJ cyP a0 jfB jch jip jcD jhx jhp jhq jgi jgj jgk jfR jgl jgO jfS jc5 jjn jjx Q  C0 n9 _ _ _ jdE 0 hP hD hS (lv_sub hl [1, 0] rfl) hw
theorem ui_X1_day_X1 : ∀ w ∈ u_ws RX1 TX1 4, w ∈ wsX1_day := uiM mbX1_day euX1 (by decide +kernel)
theorem uw_X1_day_f13 : (.fieldLink RX1 13 "MarchHares$Days" "row" "[I" : Cond) ∈ wsX1_day := mbX1_day 276 (by decide +kernel)
set_option maxHeartbeats 4000000 in
set_option maxRecDepth 100000 in
theorem ck_X1_day (l : Launch) (dC : Nat → ClassId) (dI : Nat → Nat → Nat) (cyB cyI cyJ cyP : ClassId) (a0 jch sz : Nat) (jcD ji6 jhx : Value) (jdE : Nat → Int32)   {Q : Int32 → Prop} (hw : wq_X1_day jdE   Q) : Met l yX1_day wsX1_day ({ frames := 0, cells := 0, slots := 0, locals := 0 }) (va_Pc [.ref a0] (cPc (dC, dI) (kT cyB cyI cyJ cyP) (wd00_4 a0 jch jcD ji6 jhx jch cyI jdE) sz)) (va_Qi (fun (r : Int32) (_ : Unit) => Q r ) (cB (dC, dI) (kT cyB cyI cyJ cyP) (va_A (wd00_4 a0 jch jcD ji6 jhx jch cyI jdE) sz) (fun u : Unit => ((wd00_4 a0 jch jcD ji6 jhx jch cyI jdE) : va_W))) (va_A (wd00_4 a0 jch jcD ji6 jhx jch cyI jdE) sz)) 0 0 (va_A (wd00_4 a0 jch jcD ji6 jhx jch cyI jdE) sz) := by
  refine Met.ofW (cc := cX1_day) (maxL := 1) (ret := (some .int)) (by decide) rfl ?_
  intro p e s m args below meth c s₁ B hml hv
  obtain ⟨rfl, hsz, hP, hK, hD0, hNw⟩ := hv
  have hx := B.exec
  have hb := B.bytes
  have hr := B.returns
  have hts := atoms_spec (ws := wsX1_day) B.pre
  have hown : s.vm.findClass RX1 = some m.cls := findClass_of_methodNamed B.named
  have hlocks := B.notSynchronized
  subst hsz
  have hD := hD0.self (sz := s.heap.size)
  generalize hAe : va_A (wd00_4 a0 jch jcD ji6 jhx jch cyI jdE) s.heap.size = A at hD ⊢
  have hA : ∀ q : Nat, s.heap.size ≤ q → A q := fun q h => by rw [← hAe]; exact Or.inr h
  have hS : va_S A s.heap s.heap [] := va_S.rf
  have hP : va_P (dC, dI) vwCl (wd00_4 a0 jch jcD ji6 jhx jch cyI jdE) s.heap := hP
  have hl := lv_entry ([.ref a0]) (n := 1) (Nat.le_of_ble_eq_true rfl)
  rw [lg_entry_eq]
  generalize (lg_sl ([.ref a0]) ++ List.replicate (1 - (lg_sl ([.ref a0])).length) Slot.unset).toArray = ls at hl ⊢
  have hl : lv_has ls 1 [(0, .ref a0)] := hl
  have C0 : cfx p s m _ meth c cX1_day (some .int) wsX1_day RX1 1 A (dC, dI) (kT cyB cyI cyJ cyP) := ⟨hx, hb, hr, hts, hown, hlocks, hml, hA, hK, hNw⟩
  clear hAe
  obtain ⟨H, hH⟩ : ∃ H, H = s.heap := ⟨_, rfl⟩
  rw [← hH] at hP ⊢
  have hS : va_S A s.heap H [] := by rw [hH]; exact va_S.rf
  have hS := hS
  refine lv_aload_n hx hb (dt_of tkX1_day_k0 0 rfl) rfl (lv_at hl 0 rfl) ?_
  refine va_get (D := (dC, dI)) (ci := 1) (v := .ref jch) (C := RX1) (T := TX1) (N := 4) hx hb hts ui_X1_day_X1 hown hK hP 0 rfl rfl 0 (by decide) (hts _ uw_X1_day_f13) (fun _ h9 => h9) rfl (dt_of tkX1_day_k0 1 rfl) ?_
  refine lv_iconst (v := 0) hx hb (dt_of tkX1_day_k0 2 rfl) (by decide) ?_
  refine va_iald hx hb hK hP 1 1 rfl rfl (vin (by decide)) (dt_of tkX1_day_k0 3 rfl) ?_
  refine lv_topi (fun x1 ex1 => ?_)
  have hw := hw x1 ex1
  exact ((W.iret (v := x1) hx hb hr (fun t ht hW => ⟨⟨x1, (), rfl, hw, by rw [ht]; exact hP, va_K.moved hW.alike hK, hD⟩, hS.F ht⟩) hS.2.2 (dt_of tkX1_day_k0 4 rfl)))
theorem ui_X1_caughtOnes_X1 : ∀ w ∈ u_ws RX1 TX1 4, w ∈ wsX1_caughtOnes := uiM mbX1_caughtOnes euX1 (by decide +kernel)
theorem uw_X1_caughtOnes_f13 : (.fieldLink RX1 13 "MarchHares$Days" "row" "[I" : Cond) ∈ wsX1_caughtOnes := mbX1_caughtOnes 276 (by decide +kernel)
set_option maxHeartbeats 4000000 in
set_option maxRecDepth 100000 in
theorem ck_X1_caughtOnes (l : Launch) (dC : Nat → ClassId) (dI : Nat → Nat → Nat) (cyB cyI cyJ cyP : ClassId) (a0 jch sz : Nat) (jcD ji6 jhx : Value) (jdE : Nat → Int32)   {Q : Int32 → Prop} (hw : wq_X1_caughtOnes jdE   Q) : Met l yX1_caughtOnes wsX1_caughtOnes ({ frames := 0, cells := 0, slots := 0, locals := 0 }) (va_Pc [.ref a0] (cPc (dC, dI) (kT cyB cyI cyJ cyP) (wd00_4 a0 jch jcD ji6 jhx jch cyI jdE) sz)) (va_Qi (fun (r : Int32) (_ : Unit) => Q r ) (cB (dC, dI) (kT cyB cyI cyJ cyP) (va_A (wd00_4 a0 jch jcD ji6 jhx jch cyI jdE) sz) (fun u : Unit => ((wd00_4 a0 jch jcD ji6 jhx jch cyI jdE) : va_W))) (va_A (wd00_4 a0 jch jcD ji6 jhx jch cyI jdE) sz)) 0 0 (va_A (wd00_4 a0 jch jcD ji6 jhx jch cyI jdE) sz) := by
  refine Met.ofW (cc := cX1_caughtOnes) (maxL := 1) (ret := (some .int)) (by decide) rfl ?_
  intro p e s m args below meth c s₁ B hml hv
  obtain ⟨rfl, hsz, hP, hK, hD0, hNw⟩ := hv
  have hx := B.exec
  have hb := B.bytes
  have hr := B.returns
  have hts := atoms_spec (ws := wsX1_caughtOnes) B.pre
  have hown : s.vm.findClass RX1 = some m.cls := findClass_of_methodNamed B.named
  have hlocks := B.notSynchronized
  subst hsz
  have hD := hD0.self (sz := s.heap.size)
  generalize hAe : va_A (wd00_4 a0 jch jcD ji6 jhx jch cyI jdE) s.heap.size = A at hD ⊢
  have hA : ∀ q : Nat, s.heap.size ≤ q → A q := fun q h => by rw [← hAe]; exact Or.inr h
  have hS : va_S A s.heap s.heap [] := va_S.rf
  have hP : va_P (dC, dI) vwCl (wd00_4 a0 jch jcD ji6 jhx jch cyI jdE) s.heap := hP
  have hl := lv_entry ([.ref a0]) (n := 1) (Nat.le_of_ble_eq_true rfl)
  rw [lg_entry_eq]
  generalize (lg_sl ([.ref a0]) ++ List.replicate (1 - (lg_sl ([.ref a0])).length) Slot.unset).toArray = ls at hl ⊢
  have hl : lv_has ls 1 [(0, .ref a0)] := hl
  have C0 : cfx p s m _ meth c cX1_caughtOnes (some .int) wsX1_caughtOnes RX1 1 A (dC, dI) (kT cyB cyI cyJ cyP) := ⟨hx, hb, hr, hts, hown, hlocks, hml, hA, hK, hNw⟩
  clear hAe
  obtain ⟨H, hH⟩ : ∃ H, H = s.heap := ⟨_, rfl⟩
  rw [← hH] at hP ⊢
  have hS : va_S A s.heap H [] := by rw [hH]; exact va_S.rf
  have hS := hS
  refine lv_aload_n hx hb (dt_of tkX1_caughtOnes_k0 0 rfl) rfl (lv_at hl 0 rfl) ?_
  refine va_get (D := (dC, dI)) (ci := 1) (v := .ref jch) (C := RX1) (T := TX1) (N := 4) hx hb hts ui_X1_caughtOnes_X1 hown hK hP 0 rfl rfl 0 (by decide) (hts _ uw_X1_caughtOnes_f13) (fun _ h9 => h9) rfl (dt_of tkX1_caughtOnes_k0 1 rfl) ?_
  refine lv_iconst (v := 2) hx hb (dt_of tkX1_caughtOnes_k0 2 rfl) (by decide) ?_
  refine va_iald hx hb hK hP 1 1 rfl rfl (vin (by decide)) (dt_of tkX1_caughtOnes_k0 3 rfl) ?_
  refine lv_topi (fun x1 ex1 => ?_)
  have hw := hw x1 ex1
  exact ((W.iret (v := x1) hx hb hr (fun t ht hW => ⟨⟨x1, (), rfl, hw, by rw [ht]; exact hP, va_K.moved hW.alike hK, hD⟩, hS.F ht⟩) hS.2.2 (dt_of tkX1_caughtOnes_k0 4 rfl)))
theorem ui_X1_owesTo_X1 : ∀ w ∈ u_ws RX1 TX1 4, w ∈ wsX1_owesTo := uiM mbX1_owesTo euX1 (by decide +kernel)
theorem uw_X1_owesTo_f13 : (.fieldLink RX1 13 "MarchHares$Days" "row" "[I" : Cond) ∈ wsX1_owesTo := mbX1_owesTo 276 (by decide +kernel)
set_option maxHeartbeats 4000000 in
set_option maxRecDepth 100000 in
theorem ck_X1_owesTo (l : Launch) (dC : Nat → ClassId) (dI : Nat → Nat → Nat) (cyB cyI cyJ cyP : ClassId) (a0 jch sz : Nat) (jcD ji6 jhx : Value) (jdE : Nat → Int32)  (p1 p2 : Int32) {Q : Int32 → Prop} (hw : wq_X1_owesTo jdE  p1 p2 Q) : Met l yX1_owesTo wsX1_owesTo ({ frames := 0, cells := 0, slots := 0, locals := 0 }) (va_Pc [.ref a0, .int p1, .int p2] (cPc (dC, dI) (kT cyB cyI cyJ cyP) (wd00_4 a0 jch jcD ji6 jhx jch cyI jdE) sz)) (va_Qi (fun (r : Int32) (_ : Unit) => Q r ) (cB (dC, dI) (kT cyB cyI cyJ cyP) (va_A (wd00_4 a0 jch jcD ji6 jhx jch cyI jdE) sz) (fun u : Unit => ((wd00_4 a0 jch jcD ji6 jhx jch cyI jdE) : va_W))) (va_A (wd00_4 a0 jch jcD ji6 jhx jch cyI jdE) sz)) 0 0 (va_A (wd00_4 a0 jch jcD ji6 jhx jch cyI jdE) sz) := by
  refine Met.ofW (cc := cX1_owesTo) (maxL := 3) (ret := (some .int)) (by decide) rfl ?_
  intro p e s m args below meth c s₁ B hml hv
  obtain ⟨rfl, hsz, hP, hK, hD0, hNw⟩ := hv
  have hx := B.exec
  have hb := B.bytes
  have hr := B.returns
  have hts := atoms_spec (ws := wsX1_owesTo) B.pre
  have hown : s.vm.findClass RX1 = some m.cls := findClass_of_methodNamed B.named
  have hlocks := B.notSynchronized
  subst hsz
  have hD := hD0.self (sz := s.heap.size)
  generalize hAe : va_A (wd00_4 a0 jch jcD ji6 jhx jch cyI jdE) s.heap.size = A at hD ⊢
  have hA : ∀ q : Nat, s.heap.size ≤ q → A q := fun q h => by rw [← hAe]; exact Or.inr h
  have hS : va_S A s.heap s.heap [] := va_S.rf
  have hP : va_P (dC, dI) vwCl (wd00_4 a0 jch jcD ji6 jhx jch cyI jdE) s.heap := hP
  have hl := lv_entry ([.ref a0, .int p1, .int p2]) (n := 3) (Nat.le_of_ble_eq_true rfl)
  rw [lg_entry_eq]
  generalize (lg_sl ([.ref a0, .int p1, .int p2]) ++ List.replicate (3 - (lg_sl ([.ref a0, .int p1, .int p2])).length) Slot.unset).toArray = ls at hl ⊢
  have hl : lv_has ls 3 [(0, .ref a0), (1, .int p1), (2, .int p2)] := hl
  have C0 : cfx p s m _ meth c cX1_owesTo (some .int) wsX1_owesTo RX1 3 A (dC, dI) (kT cyB cyI cyJ cyP) := ⟨hx, hb, hr, hts, hown, hlocks, hml, hA, hK, hNw⟩
  clear hAe
  obtain ⟨H, hH⟩ : ∃ H, H = s.heap := ⟨_, rfl⟩
  rw [← hH] at hP ⊢
  have hS : va_S A s.heap H [] := by rw [hH]; exact va_S.rf
  have hS := hS
  refine lv_aload_n hx hb (dt_of tkX1_owesTo_k0 0 rfl) rfl (lv_at hl 0 rfl) ?_
  refine va_get (D := (dC, dI)) (ci := 1) (v := .ref jch) (C := RX1) (T := TX1) (N := 4) hx hb hts ui_X1_owesTo_X1 hown hK hP 0 rfl rfl 0 (by decide) (hts _ uw_X1_owesTo_f13) (fun _ h9 => h9) rfl (dt_of tkX1_owesTo_k0 1 rfl) ?_
  refine lv_bipush (v := 28) hx hb (dt_of tkX1_owesTo_k0 2 rfl) (by decide) ?_
  refine lv_iload_n hx hb (dt_of tkX1_owesTo_k0 3 rfl) rfl (lv_at hl 1 rfl) ?_
  refine lv_bipush (v := 6) hx hb (dt_of tkX1_owesTo_k0 4 rfl) (by decide) ?_
  refine lv_imul hx hb (dt_of tkX1_owesTo_k0 5 rfl) ?_
  refine lv_iadd hx hb (dt_of tkX1_owesTo_k0 6 rfl) ?_
  refine lv_topi (fun x1 ex1 => ?_)
  have hw := hw x1 ex1
  refine lv_iload_n hx hb (dt_of tkX1_owesTo_k0 7 rfl) rfl (lv_at hl 2 rfl) ?_
  refine lv_iadd hx hb (dt_of tkX1_owesTo_k0 8 rfl) ?_
  refine lv_topi (fun x2 ex2 => ?_)
  have hw := hw x2 ex2
  obtain ⟨hi9, hw⟩ := hw
  refine va_iald hx hb hK hP 1 1 rfl rfl hi9 (dt_of tkX1_owesTo_k0 9 rfl) ?_
  refine lv_topi (fun x3 ex3 => ?_)
  have hw := hw x3 ex3
  exact ((W.iret (v := x3) hx hb hr (fun t ht hW => ⟨⟨x3, (), rfl, hw, by rw [ht]; exact hP, va_K.moved hW.alike hK, hD⟩, hS.F ht⟩) hS.2.2 (dt_of tkX1_owesTo_k0 10 rfl)))
theorem ui_X1_owes_X1 : ∀ w ∈ u_ws RX1 TX1 4, w ∈ wsX1_owes := uiM mbX1_owes euX1 (by decide +kernel)
theorem ui_X1_owes_X2 : ∀ w ∈ u_ws RX2 TX2 12, w ∈ wsX1_owes := uiM mbX1_owes euX2 (by decide +kernel)
theorem uw_X1_owes_f24 : (.fieldLink RX1 24 "MarchHares$Days" "down" "LMarchHares$Down;" : Cond) ∈ wsX1_owes := mbX1_owes 322 (by decide +kernel)
theorem uw_X1_owes_f32 : (.fieldLink RX1 32 "MarchHares$Down" "hares" "I" : Cond) ∈ wsX1_owes := mbX1_owes 324 (by decide +kernel)
set_option maxHeartbeats 4000000 in
set_option maxRecDepth 100000 in
theorem kl_X1_owes_4 {p : Program} {l : Launch} {e : Env} {s : State} {m : MethodId} {args : Array Value} {below : List Frame} {meth : Method} {c : Code} {A : Nat → Prop} (dC : Nat → ClassId) (dI : Nat → Nat → Nat) (cyB cyI cyJ cyP : ClassId) (a0 jfB jch : Nat) (jcD jhx jhp jhq jgi jgj jgk jgz jfR jgl jgO jfS jiB : Value) (jc5 : Int32) (jdE : Nat → Int32) (Q : Int32 → Prop)  (C0 : cfx p s m args meth c cX1_owes (some .int) wsX1_owes RX1 4 A (dC, dI) (kT cyB cyI cyJ cyP)) : ∀ (n : Nat) (H : Heap) (locs : List Loc) (ls : Array Slot) (l1 l2 l3 : Int32), va_P (dC, dI) vwCl (wd00_9 a0 jch jcD jfB jhx jfB jhp jhq jgi jgj jgk jgz jfR jgl jgO jc5 jfS jiB jch cyI jdE) H → va_D A (wd00_9 a0 jch jcD jfB jhx jfB jhp jhq jgi jgj jgk jgz jfR jgl jgO jc5 jfS jiB jch cyI jdE) → va_S A s.heap H locs → lv_has ls 4 [(0, .ref a0), (1, .int l1), (2, .int l2), (3, .int l3)] → wl_X1_owes_4 jc5 jdE Q  n l1 l2 l3 → W p l e (headSpec wsX1_owes ({ frames := 1, cells := 0, slots := 0, locals := 22 })).room s m args below meth c H locs 0 0 (MQ below (va_Qi (fun (r : Int32) (_ : Unit) => Q r ) (cB (dC, dI) (kT cyB cyI cyJ cyP) A (fun u : Unit => ((wd00_9 a0 jch jcD jfB jhx jfB jhp jhq jgi jgj jgk jgz jfR jgl jgO jc5 jfS jiB jch cyI jdE) : va_W))) A) args s 0 0 A) (F0 m 4 ls []) := by
  obtain ⟨hx, hb, hr, hts, hown, hlocks, hml, hA, hK, hNw⟩ := id C0
  intro n
  induction n with
  | zero => intro H locs ls l1 l2 l3 hP hD hS hl hw; exact False.elim hw
  | succ n ih =>
    intro H locs ls l1 l2 l3 hP hD hS hl hw
    refine lv_iload_n hx hb (dt_of tkX1_owes_k0 4 rfl) rfl (lv_at hl 3 rfl) ?_
    refine lv_aload_n hx hb (dt_of tkX1_owes_k0 5 rfl) rfl (lv_at hl 0 rfl) ?_
    refine va_get (D := (dC, dI)) (ci := 1) (v := .ref jfB) (C := RX1) (T := TX1) (N := 4) hx hb hts ui_X1_owes_X1 hown hK hP 0 rfl rfl 2 (by decide) (hts _ uw_X1_owes_f24) (fun _ h9 => h9) rfl (dt_of tkX1_owes_k0 6 rfl) ?_
    refine va_get (D := (dC, dI)) (ci := 2) (v := .int jc5) (C := RX2) (T := TX2) (N := 12) hx hb hts ui_X1_owes_X2 hown hK hP 1 rfl rfl 9 (by decide) (hts _ uw_X1_owes_f32) (fun _ h9 => h9) rfl (dt_of tkX1_owes_k0 7 rfl) ?_
    refine lv_icmp_ge (tgt := 30) hx hb (dt_of tkX1_owes_k0 8 rfl) (by decide) (fun c1 => ?_) (fun c1 => ?_)
    · have hw := hw.1 c1
      refine lv_iload_n hx hb (dt_of tkX1_owes_k24 2 rfl) rfl (lv_at hl 2 rfl) ?_
      exact ((W.iret (v := l2) hx hb hr (fun t ht hW => ⟨⟨l2, (), rfl, hw, by rw [ht]; exact hP, va_K.moved hW.alike hK, hD⟩, hS.F ht⟩) hS.2.2 (dt_of tkX1_owes_k24 3 rfl)))
    · have hw := hw.2 c1
      refine lv_iload_n hx hb (dt_of tkX1_owes_k0 9 rfl) rfl (lv_at hl 2 rfl) ?_
      refine lv_aload_n hx hb (dt_of tkX1_owes_k0 10 rfl) rfl (lv_at hl 0 rfl) ?_
      refine lv_iload_n hx hb (dt_of tkX1_owes_k0 11 rfl) rfl (lv_at hl 1 rfl) ?_
      refine lv_iload_n hx hb (dt_of tkX1_owes_k0 12 rfl) rfl (lv_at hl 3 rfl) ?_
      obtain ⟨hCc, hPc, hDc, hFc⟩ := va_pick (ws' := (wd00_7 a0 jch jcD jfB jhx jch cyI jdE)) hP hD hS hA [0, 2] (by decide +kernel) rfl
      refine va_calli (va_runV (As := [.int l1, .int l3]) (rest := [.int l2]) ⟨hx, hb, hml, hown, hts⟩ (ck_X1_owesTo l dC dI cyB cyI cyJ cyP a0 jch H.size (jcD) (.ref jfB) (jhx) jdE  l1 l3 hw) (cwV 2 hts gX1_owes_X1_owesTo rfl rfl rfl (by decide +kernel) ⟨Nat.le_of_ble_eq_true rfl, Nat.le_of_ble_eq_true rfl⟩) ⟨cPc_blind, va_recv (q := (RX1, TX1, 4)) hK hPc (ci := 1) (q0 := 0) rfl rfl, cPc_pre hPc hK hDc hNw⟩ rfl rfl hl.1 rfl (lv_room (Nat.le_of_ble_eq_true rfl)) (dt_of tkX1_owes_k0 13 rfl) ⟨Nat.le_of_ble_eq_true rfl, Nat.le_of_ble_eq_true rfl⟩) hS (fun q _ h => hFc q h) hFc (fun r2 u t H1 locs ht hvm hw hB hz1 hk1 hS => ?_)
      obtain ⟨hP1, hK1, hD1⟩ := hB
      rw [ht] at hP1
      obtain ⟨hP, hD⟩ := va_joinN (wr := [(jfB, .inr (2, [jhp, jhq, jgi, jgj, jgk, jgz, jfR, jgl, jgO, .int jc5, jfS, jiB]))]) (w1 := (wd00_7 a0 jch jcD jfB jhx jch cyI jdE)) (wn := (wd00_9 a0 jch jcD jfB jhx jfB jhp jhq jgi jgj jgk jgz jfR jgl jgO jc5 jfS jiB jch cyI jdE)) hP hD [0, 2] [1] [1, 0, 2] hCc rfl (by decide +kernel) (by decide +kernel) (by decide +kernel) rfl hk1 hFc hP1 hD1
      generalize H1 = H at hP hS ⊢
      refine lv_iadd hx hb (dt_of tkX1_owes_k0 14 rfl) ?_
      refine lv_topi (fun x3 ex3 => ?_)
      have hw := hw x3 ex3
      refine lv_istore_n (lv' := [(2, .int x3), (0, .ref a0), (1, .int l1), (3, .int l3)]) hx hb (dt_of tkX1_owes_k0 15 rfl) rfl hl (by decide) rfl (fun ls hl => ?_)
      obtain ⟨x4, ex4⟩ : ∃ y : Int32, y = l3 + 1 := ⟨_, rfl⟩
      have hw := hw x4 ex4
      refine lv_iinc (v := x4) (lv' := [(3, .int x4), (2, .int x3), (0, .ref a0), (1, .int l1)]) hx hb (dt_of tkX1_owes_k24 0 rfl) hl (k := 3) rfl (by rw [ex4]; rfl) (by decide) rfl (fun ls hl => ?_)
      refine lv_goto (tgt := 4) hx hb (dt_of tkX1_owes_k24 1 rfl) (by decide) ?_
      exact ih _ _ _ l1 x3 x4 hP hD hS (lv_sub hl [2, 3, 1, 0] rfl) hw
set_option maxHeartbeats 4000000 in
set_option maxRecDepth 100000 in
theorem ck_X1_owes (l : Launch) (dC : Nat → ClassId) (dI : Nat → Nat → Nat) (cyB cyI cyJ cyP : ClassId) (a0 jfB jch sz : Nat) (jcD jhx jhp jhq jgi jgj jgk jgz jfR jgl jgO jfS jiB : Value) (jc5 : Int32) (jdE : Nat → Int32)  (p1 : Int32) {Q : Int32 → Prop} (hw : wq_X1_owes jc5 jdE  p1 Q) : Met l yX1_owes wsX1_owes ({ frames := 1, cells := 0, slots := 0, locals := 22 }) (va_Pc [.ref a0, .int p1] (cPc (dC, dI) (kT cyB cyI cyJ cyP) (wd00_9 a0 jch jcD jfB jhx jfB jhp jhq jgi jgj jgk jgz jfR jgl jgO jc5 jfS jiB jch cyI jdE) sz)) (va_Qi (fun (r : Int32) (_ : Unit) => Q r ) (cB (dC, dI) (kT cyB cyI cyJ cyP) (va_A (wd00_9 a0 jch jcD jfB jhx jfB jhp jhq jgi jgj jgk jgz jfR jgl jgO jc5 jfS jiB jch cyI jdE) sz) (fun u : Unit => ((wd00_9 a0 jch jcD jfB jhx jfB jhp jhq jgi jgj jgk jgz jfR jgl jgO jc5 jfS jiB jch cyI jdE) : va_W))) (va_A (wd00_9 a0 jch jcD jfB jhx jfB jhp jhq jgi jgj jgk jgz jfR jgl jgO jc5 jfS jiB jch cyI jdE) sz)) 0 0 (va_A (wd00_9 a0 jch jcD jfB jhx jfB jhp jhq jgi jgj jgk jgz jfR jgl jgO jc5 jfS jiB jch cyI jdE) sz) := by
  refine Met.ofW (cc := cX1_owes) (maxL := 4) (ret := (some .int)) (by decide) rfl ?_
  intro p e s m args below meth c s₁ B hml hv
  obtain ⟨rfl, hsz, hP, hK, hD0, hNw⟩ := hv
  have hx := B.exec
  have hb := B.bytes
  have hr := B.returns
  have hts := atoms_spec (ws := wsX1_owes) B.pre
  have hown : s.vm.findClass RX1 = some m.cls := findClass_of_methodNamed B.named
  have hlocks := B.notSynchronized
  subst hsz
  have hD := hD0.self (sz := s.heap.size)
  generalize hAe : va_A (wd00_9 a0 jch jcD jfB jhx jfB jhp jhq jgi jgj jgk jgz jfR jgl jgO jc5 jfS jiB jch cyI jdE) s.heap.size = A at hD ⊢
  have hA : ∀ q : Nat, s.heap.size ≤ q → A q := fun q h => by rw [← hAe]; exact Or.inr h
  have hS : va_S A s.heap s.heap [] := va_S.rf
  have hP : va_P (dC, dI) vwCl (wd00_9 a0 jch jcD jfB jhx jfB jhp jhq jgi jgj jgk jgz jfR jgl jgO jc5 jfS jiB jch cyI jdE) s.heap := hP
  have hl := lv_entry ([.ref a0, .int p1]) (n := 4) (Nat.le_of_ble_eq_true rfl)
  rw [lg_entry_eq]
  generalize (lg_sl ([.ref a0, .int p1]) ++ List.replicate (4 - (lg_sl ([.ref a0, .int p1])).length) Slot.unset).toArray = ls at hl ⊢
  have hl : lv_has ls 4 [(0, .ref a0), (1, .int p1)] := hl
  have C0 : cfx p s m _ meth c cX1_owes (some .int) wsX1_owes RX1 4 A (dC, dI) (kT cyB cyI cyJ cyP) := ⟨hx, hb, hr, hts, hown, hlocks, hml, hA, hK, hNw⟩
  clear hAe
  obtain ⟨H, hH⟩ : ∃ H, H = s.heap := ⟨_, rfl⟩
  rw [← hH] at hP ⊢
  have hS : va_S A s.heap H [] := by rw [hH]; exact va_S.rf
  have hS := hS
  refine lv_iconst (v := 0) hx hb (dt_of tkX1_owes_k0 0 rfl) (by decide) ?_
  refine lv_istore_n (lv' := [(2, .int 0), (0, .ref a0), (1, .int p1)]) hx hb (dt_of tkX1_owes_k0 1 rfl) rfl hl (by decide) rfl (fun ls hl => ?_)
  refine lv_iconst (v := 0) hx hb (dt_of tkX1_owes_k0 2 rfl) (by decide) ?_
  refine lv_istore_n (lv' := [(3, .int 0), (2, .int 0), (0, .ref a0), (1, .int p1)]) hx hb (dt_of tkX1_owes_k0 3 rfl) rfl hl (by decide) rfl (fun ls hl => ?_)
  obtain ⟨n9, hw⟩ := hw
  exact kl_X1_owes_4 dC dI cyB cyI cyJ cyP a0 jfB jch jcD jhx jhp jhq jgi jgj jgk jgz jfR jgl jgO jfS jiB jc5 jdE Q  C0 n9 _ _ _ p1 0 0 hP hD hS (lv_sub hl [2, 3, 1, 0] rfl) hw
theorem ui_X1_allDebts_X1 : ∀ w ∈ u_ws RX1 TX1 4, w ∈ wsX1_allDebts := uiM mbX1_allDebts euX1 (by decide +kernel)
theorem ui_X1_allDebts_X2 : ∀ w ∈ u_ws RX2 TX2 12, w ∈ wsX1_allDebts := uiM mbX1_allDebts euX2 (by decide +kernel)
theorem uw_X1_allDebts_f24 : (.fieldLink RX1 24 "MarchHares$Days" "down" "LMarchHares$Down;" : Cond) ∈ wsX1_allDebts := mbX1_allDebts 322 (by decide +kernel)
theorem uw_X1_allDebts_f32 : (.fieldLink RX1 32 "MarchHares$Down" "hares" "I" : Cond) ∈ wsX1_allDebts := mbX1_allDebts 324 (by decide +kernel)
set_option maxHeartbeats 4000000 in
set_option maxRecDepth 100000 in
theorem kl_X1_allDebts_4 {p : Program} {l : Launch} {e : Env} {s : State} {m : MethodId} {args : Array Value} {below : List Frame} {meth : Method} {c : Code} {A : Nat → Prop} (dC : Nat → ClassId) (dI : Nat → Nat → Nat) (cyB cyI cyJ cyP : ClassId) (a0 jfB jch : Nat) (jcD jhx jhp jhq jgi jgj jgk jgz jfR jgl jgO jfS jiB : Value) (jc5 : Int32) (jdE : Nat → Int32) (Q : Int32 → Prop)  (C0 : cfx p s m args meth c cX1_allDebts (some .int) wsX1_allDebts RX1 3 A (dC, dI) (kT cyB cyI cyJ cyP)) : ∀ (n : Nat) (H : Heap) (locs : List Loc) (ls : Array Slot) (l1 l2 : Int32), va_P (dC, dI) vwCl (wd00_9 a0 jch jcD jfB jhx jfB jhp jhq jgi jgj jgk jgz jfR jgl jgO jc5 jfS jiB jch cyI jdE) H → va_D A (wd00_9 a0 jch jcD jfB jhx jfB jhp jhq jgi jgj jgk jgz jfR jgl jgO jc5 jfS jiB jch cyI jdE) → va_S A s.heap H locs → lv_has ls 3 [(0, .ref a0), (1, .int l1), (2, .int l2)] → wl_X1_allDebts_4 jc5 jdE Q  n l1 l2 → W p l e (headSpec wsX1_allDebts ({ frames := 2, cells := 0, slots := 0, locals := 45 })).room s m args below meth c H locs 0 0 (MQ below (va_Qi (fun (r : Int32) (_ : Unit) => Q r ) (cB (dC, dI) (kT cyB cyI cyJ cyP) A (fun u : Unit => ((wd00_9 a0 jch jcD jfB jhx jfB jhp jhq jgi jgj jgk jgz jfR jgl jgO jc5 jfS jiB jch cyI jdE) : va_W))) A) args s 0 0 A) (F0 m 4 ls []) := by
  obtain ⟨hx, hb, hr, hts, hown, hlocks, hml, hA, hK, hNw⟩ := id C0
  intro n
  induction n with
  | zero => intro H locs ls l1 l2 hP hD hS hl hw; exact False.elim hw
  | succ n ih =>
    intro H locs ls l1 l2 hP hD hS hl hw
    refine lv_iload_n hx hb (dt_of tkX1_allDebts_k0 4 rfl) rfl (lv_at hl 2 rfl) ?_
    refine lv_aload_n hx hb (dt_of tkX1_allDebts_k0 5 rfl) rfl (lv_at hl 0 rfl) ?_
    refine va_get (D := (dC, dI)) (ci := 1) (v := .ref jfB) (C := RX1) (T := TX1) (N := 4) hx hb hts ui_X1_allDebts_X1 hown hK hP 0 rfl rfl 2 (by decide) (hts _ uw_X1_allDebts_f24) (fun _ h9 => h9) rfl (dt_of tkX1_allDebts_k0 6 rfl) ?_
    refine va_get (D := (dC, dI)) (ci := 2) (v := .int jc5) (C := RX2) (T := TX2) (N := 12) hx hb hts ui_X1_allDebts_X2 hown hK hP 1 rfl rfl 9 (by decide) (hts _ uw_X1_allDebts_f32) (fun _ h9 => h9) rfl (dt_of tkX1_allDebts_k0 7 rfl) ?_
    refine lv_icmp_ge (tgt := 29) hx hb (dt_of tkX1_allDebts_k0 8 rfl) (by decide) (fun c1 => ?_) (fun c1 => ?_)
    · have hw := hw.1 c1
      refine lv_iload_n hx hb (dt_of tkX1_allDebts_k26 1 rfl) rfl (lv_at hl 1 rfl) ?_
      exact ((W.iret (v := l1) hx hb hr (fun t ht hW => ⟨⟨l1, (), rfl, hw, by rw [ht]; exact hP, va_K.moved hW.alike hK, hD⟩, hS.F ht⟩) hS.2.2 (dt_of tkX1_allDebts_k26 2 rfl)))
    · have hw := hw.2 c1
      refine lv_iload_n hx hb (dt_of tkX1_allDebts_k0 9 rfl) rfl (lv_at hl 1 rfl) ?_
      refine lv_aload_n hx hb (dt_of tkX1_allDebts_k0 10 rfl) rfl (lv_at hl 0 rfl) ?_
      refine lv_iload_n hx hb (dt_of tkX1_allDebts_k0 11 rfl) rfl (lv_at hl 2 rfl) ?_
      obtain ⟨hCc, hPc, hDc, hFc⟩ := va_pick (ws' := (wd00_9 a0 jch jcD jfB jhx jfB jhp jhq jgi jgj jgk jgz jfR jgl jgO jc5 jfS jiB jch cyI jdE)) hP hD hS hA [0, 1, 2] (by decide +kernel) rfl
      refine va_calli (va_runV (As := [.int l2]) (rest := [.int l1]) ⟨hx, hb, hml, hown, hts⟩ (ck_X1_owes l dC dI cyB cyI cyJ cyP a0 jfB jch H.size (jcD) (jhx) (jhp) (jhq) (jgi) (jgj) (jgk) (jgz) (jfR) (jgl) (jgO) (jfS) (jiB) jc5 jdE  l2 hw) (cwV 1 hts gX1_allDebts_X1_owes rfl rfl rfl (by decide +kernel) ⟨Nat.le_of_ble_eq_true rfl, Nat.le_of_ble_eq_true rfl⟩) ⟨cPc_blind, va_recv (q := (RX1, TX1, 4)) hK hPc (ci := 1) (q0 := 0) rfl rfl, cPc_pre hPc hK hDc hNw⟩ rfl rfl hl.1 rfl (lv_room (Nat.le_of_ble_eq_true rfl)) (dt_of tkX1_allDebts_k0 12 rfl) ⟨Nat.le_of_ble_eq_true rfl, Nat.le_of_ble_eq_true rfl⟩) hS (fun q _ h => hFc q h) hFc (fun r2 u t H1 locs ht hvm hw hB hz1 hk1 hS => ?_)
      obtain ⟨hP1, hK1, hD1⟩ := hB
      rw [ht] at hP1
      obtain ⟨hP, hD⟩ := va_joinI (wr := []) (w1 := (wd00_9 a0 jch jcD jfB jhx jfB jhp jhq jgi jgj jgk jgz jfR jgl jgO jc5 jfS jiB jch cyI jdE)) (wn := (wd00_9 a0 jch jcD jfB jhx jfB jhp jhq jgi jgj jgk jgz jfR jgl jgO jc5 jfS jiB jch cyI jdE)) hP hD [0, 1, 2] [] hCc rfl (by decide +kernel) (by decide +kernel) rfl hk1 hFc hP1 hD1
      generalize H1 = H at hP hS ⊢
      refine lv_iadd hx hb (dt_of tkX1_allDebts_k0 13 rfl) ?_
      refine lv_topi (fun x3 ex3 => ?_)
      have hw := hw x3 ex3
      refine lv_istore_n (lv' := [(1, .int x3), (0, .ref a0), (2, .int l2)]) hx hb (dt_of tkX1_allDebts_k0 14 rfl) rfl hl (by decide) rfl (fun ls hl => ?_)
      obtain ⟨x4, ex4⟩ : ∃ y : Int32, y = l2 + 1 := ⟨_, rfl⟩
      have hw := hw x4 ex4
      refine lv_iinc (v := x4) (lv' := [(2, .int x4), (1, .int x3), (0, .ref a0)]) hx hb (dt_of tkX1_allDebts_k0 15 rfl) hl (k := 2) rfl (by rw [ex4]; rfl) (by decide) rfl (fun ls hl => ?_)
      refine lv_goto (tgt := 4) hx hb (dt_of tkX1_allDebts_k26 0 rfl) (by decide) ?_
      exact ih _ _ _ x3 x4 hP hD hS (lv_sub hl [2, 1, 0] rfl) hw
set_option maxHeartbeats 4000000 in
set_option maxRecDepth 100000 in
theorem ck_X1_allDebts (l : Launch) (dC : Nat → ClassId) (dI : Nat → Nat → Nat) (cyB cyI cyJ cyP : ClassId) (a0 jfB jch sz : Nat) (jcD jhx jhp jhq jgi jgj jgk jgz jfR jgl jgO jfS jiB : Value) (jc5 : Int32) (jdE : Nat → Int32)   {Q : Int32 → Prop} (hw : wq_X1_allDebts jc5 jdE   Q) : Met l yX1_allDebts wsX1_allDebts ({ frames := 2, cells := 0, slots := 0, locals := 45 }) (va_Pc [.ref a0] (cPc (dC, dI) (kT cyB cyI cyJ cyP) (wd00_9 a0 jch jcD jfB jhx jfB jhp jhq jgi jgj jgk jgz jfR jgl jgO jc5 jfS jiB jch cyI jdE) sz)) (va_Qi (fun (r : Int32) (_ : Unit) => Q r ) (cB (dC, dI) (kT cyB cyI cyJ cyP) (va_A (wd00_9 a0 jch jcD jfB jhx jfB jhp jhq jgi jgj jgk jgz jfR jgl jgO jc5 jfS jiB jch cyI jdE) sz) (fun u : Unit => ((wd00_9 a0 jch jcD jfB jhx jfB jhp jhq jgi jgj jgk jgz jfR jgl jgO jc5 jfS jiB jch cyI jdE) : va_W))) (va_A (wd00_9 a0 jch jcD jfB jhx jfB jhp jhq jgi jgj jgk jgz jfR jgl jgO jc5 jfS jiB jch cyI jdE) sz)) 0 0 (va_A (wd00_9 a0 jch jcD jfB jhx jfB jhp jhq jgi jgj jgk jgz jfR jgl jgO jc5 jfS jiB jch cyI jdE) sz) := by
  refine Met.ofW (cc := cX1_allDebts) (maxL := 3) (ret := (some .int)) (by decide) rfl ?_
  intro p e s m args below meth c s₁ B hml hv
  obtain ⟨rfl, hsz, hP, hK, hD0, hNw⟩ := hv
  have hx := B.exec
  have hb := B.bytes
  have hr := B.returns
  have hts := atoms_spec (ws := wsX1_allDebts) B.pre
  have hown : s.vm.findClass RX1 = some m.cls := findClass_of_methodNamed B.named
  have hlocks := B.notSynchronized
  subst hsz
  have hD := hD0.self (sz := s.heap.size)
  generalize hAe : va_A (wd00_9 a0 jch jcD jfB jhx jfB jhp jhq jgi jgj jgk jgz jfR jgl jgO jc5 jfS jiB jch cyI jdE) s.heap.size = A at hD ⊢
  have hA : ∀ q : Nat, s.heap.size ≤ q → A q := fun q h => by rw [← hAe]; exact Or.inr h
  have hS : va_S A s.heap s.heap [] := va_S.rf
  have hP : va_P (dC, dI) vwCl (wd00_9 a0 jch jcD jfB jhx jfB jhp jhq jgi jgj jgk jgz jfR jgl jgO jc5 jfS jiB jch cyI jdE) s.heap := hP
  have hl := lv_entry ([.ref a0]) (n := 3) (Nat.le_of_ble_eq_true rfl)
  rw [lg_entry_eq]
  generalize (lg_sl ([.ref a0]) ++ List.replicate (3 - (lg_sl ([.ref a0])).length) Slot.unset).toArray = ls at hl ⊢
  have hl : lv_has ls 3 [(0, .ref a0)] := hl
  have C0 : cfx p s m _ meth c cX1_allDebts (some .int) wsX1_allDebts RX1 3 A (dC, dI) (kT cyB cyI cyJ cyP) := ⟨hx, hb, hr, hts, hown, hlocks, hml, hA, hK, hNw⟩
  clear hAe
  obtain ⟨H, hH⟩ : ∃ H, H = s.heap := ⟨_, rfl⟩
  rw [← hH] at hP ⊢
  have hS : va_S A s.heap H [] := by rw [hH]; exact va_S.rf
  have hS := hS
  refine lv_iconst (v := 0) hx hb (dt_of tkX1_allDebts_k0 0 rfl) (by decide) ?_
  refine lv_istore_n (lv' := [(1, .int 0), (0, .ref a0)]) hx hb (dt_of tkX1_allDebts_k0 1 rfl) rfl hl (by decide) rfl (fun ls hl => ?_)
  refine lv_iconst (v := 0) hx hb (dt_of tkX1_allDebts_k0 2 rfl) (by decide) ?_
  refine lv_istore_n (lv' := [(2, .int 0), (1, .int 0), (0, .ref a0)]) hx hb (dt_of tkX1_allDebts_k0 3 rfl) rfl hl (by decide) rfl (fun ls hl => ?_)
  obtain ⟨n9, hw⟩ := hw
  exact kl_X1_allDebts_4 dC dI cyB cyI cyJ cyP a0 jfB jch jcD jhx jhp jhq jgi jgj jgk jgz jfR jgl jgO jfS jiB jc5 jdE Q  C0 n9 _ _ _ 0 0 hP hD hS (lv_sub hl [2, 1, 0] rfl) hw
theorem lk_neI {x k : Int32} {n : Int} (h : ¬ x = k) (e : k.toInt = n) : ¬ n = x.toInt := fun q => h (Int32.toInt_inj.mp (q.symm.trans e.symm))
theorem ui_X10_ahead_X10 : ∀ w ∈ u_ws RX10 TX10 19, w ∈ wsX10_ahead := uiM mbX10_ahead euX10 (by decide +kernel)
theorem uw_X10_ahead_f58 : (.fieldLink RX10 58 "MarchHares" "now" "LMarchHares$Days;" : Cond) ∈ wsX10_ahead := mbX10_ahead 79 (by decide +kernel)
theorem uw_X10_ahead_f62 : (.fieldLink RX10 62 "MarchHares" "trial" "LMarchHares$Days;" : Cond) ∈ wsX10_ahead := mbX10_ahead 80 (by decide +kernel)
set_option maxHeartbeats 4000000 in
set_option maxRecDepth 100000 in
theorem kl_X10_ahead_28 {p : Program} {l : Launch} {e : Env} {s : State} {m : MethodId} {args : Array Value} {below : List Frame} {meth : Method} {c : Code} {A : Nat → Prop} (dC : Nat → ClassId) (dI : Nat → Nat → Nat) (cyB cyI cyJ cyP : ClassId) (a0 jh8 jaT jbb jhy jaR jb6 jcF : Nat) (jaK jfP ja1 jcp jbc jbV ja3 jbH jaq jac jbI jbl jbn jba jaa jbA jiJ jbr jcB jcC jbo jbp jbk jbe jbq jef jbi : Value) (jbQ : Nat → Int32) (jbm jdB : Int32) (jfQ : Nat → Int32) (E : String → Int32 → (Nat → Int32) → Value → Value → Prop) (Q : Int32 → Int32 → (Nat → Int32) → Value → Value → Prop)  (C0 : cfx p s m args meth c cX10_ahead (some .int) wsX10_ahead RX10 4 A (dC, dI) (kT cyB cyI cyJ cyP) ∧ cfX l s c A) : ∀ (n : Nat) (H : Heap) (locs : List Loc) (ls : Array Slot) (jbz : Int32) (jjV : Nat → Int32) (jkp jkP : Value) (l1 l2 l3 : Int32), va_P (dC, dI) vwCl (wd00_13 a0 jaK jfP ja1 jcp jbc jbV ja3 jbH jaT jh8 jaq jac jbI jbl jbn jba jaa jbA jbz jh8 jhy jiJ jaR jb6 jaT jbb jbr jaR jb6 jbb cyI jbQ jhy cyI jjV jaR jcB jcC jbo jbp jbk jcF jbe jbq jef jbm jbi jdB jcF cyI jfQ) H → va_D A (wd00_13 a0 jaK jfP ja1 jcp jbc jbV ja3 jbH jaT jh8 jaq jac jbI jbl jbn jba jaa jbA jbz jh8 jhy jiJ jaR jb6 jaT jbb jbr jaR jb6 jbb cyI jbQ jhy cyI jjV jaR jcB jcC jbo jbp jbk jcF jbe jbq jef jbm jbi jdB jcF cyI jfQ) → va_S A s.heap H locs → lv_has ls 4 [(0, .ref a0), (1, .int l1), (2, .int l2), (3, .int l3)] → wl_X10_ahead_28 jaR jb6 jbQ jbm jdB jfQ E Q  n jbz jjV jkp jkP l1 l2 l3 → W p l e (headSpec wsX10_ahead ({ frames := 8, cells := 2, slots := 12, locals := 164 })).room s m args below meth c H locs 2 12 (vx_MQ below (va_Qi (fun (r : Int32) (u : Int32 × (Nat → Int32) × Value × Value) => Q r u.1 u.2.1 u.2.2.1 u.2.2.2) (cB (dC, dI) (kT cyB cyI cyJ cyP) A (fun u : Int32 × (Nat → Int32) × Value × Value => ((wd00_14 a0 jaK jfP ja1 jcp jbc jbV ja3 jbH jaT jh8 jaq jac jbI jbl jbn jba jaa jbA u.1 jh8 jhy jiJ u.2.2.1 u.2.2.2 jaT jbb jbr jaR jb6 jbb cyI jbQ jhy cyI u.2.1 jaR jcB jcC jbo jbp jbk jcF jbe jbq jef jbm jbi jdB jcF cyI jfQ) : va_W))) A) (vx_X (fun _ => True) (fun (en : String) (u : Int32 × (Nat → Int32) × Value × Value) (t : State) => E en u.1 u.2.1 u.2.2.1 u.2.2.2 ∧ cB (dC, dI) (kT cyB cyI cyJ cyP) A (fun u : Int32 × (Nat → Int32) × Value × Value => ((wd00_14 a0 jaK jfP ja1 jcp jbc jbV ja3 jbH jaT jh8 jaq jac jbI jbl jbn jba jaa jbA u.1 jh8 jhy jiJ u.2.2.1 u.2.2.2 jaT jbb jbr jaR jb6 jbb cyI jbQ jhy cyI u.2.1 jaR jcB jcC jbo jbp jbk jcF jbe jbq jef jbm jbi jdB jcF cyI jfQ) : va_W)) u t) A) args s 2 12 A) (F0 m 28 ls []) := by
  obtain ⟨⟨hx, hb, hr, hts, hown, hlocks, hml, hA, hK, hNw⟩, hXs⟩ := id C0
  have hY := hXs.2
  intro n
  induction n with
  | zero => intro H locs ls jbz jjV jkp jkP l1 l2 l3 hP hD hS hl hw; exact False.elim hw
  | succ n ih =>
    intro H locs ls jbz jjV jkp jkP l1 l2 l3 hP hD hS hl hw
    refine lv_iload_n hx hb (dt_of tkX10_ahead_k27 1 rfl) rfl (lv_at hl 3 rfl) ?_
    refine lv_iload_n hx hb (dt_of tkX10_ahead_k27 2 rfl) rfl (lv_at hl 1 rfl) ?_
    refine lv_icmp_ge (tgt := 46) hx hb (dt_of tkX10_ahead_k27 3 rfl) (by decide) (fun c4 => ?_) (fun c4 => ?_)
    · have hw := hw.1 c4
      refine lv_iload_n hx hb (dt_of tkX10_ahead_k27 9 rfl) rfl (lv_at hl 2 rfl) ?_
      by_cases c5 : l2 = 0
      · have hw := hw.1 c5
        refine lv_lookup (tgt := 72) (off := 25) hx hb dX10_ahead_47 (by decide) (by rw [c5]; decide) (by decide) ?_
        refine lv_aload_n hx hb (dt_of tkX10_ahead_k72 0 rfl) rfl (lv_at hl 0 rfl) ?_
        refine va_get (D := (dC, dI)) (ci := 10) (v := .ref jh8) (C := RX10) (T := TX10) (N := 19) hx hb hts ui_X10_ahead_X10 hown hK hP 0 rfl rfl 9 (by decide) (hts _ uw_X10_ahead_f62) (fun _ h9 => h9) rfl (dt_of tkX10_ahead_k72 1 rfl) ?_
        obtain ⟨hCc, hPc, hDc, hFc⟩ := va_pick (ws' := (wd00_15 jh8 jhy jiJ jaR jb6 jhy cyI jjV)) hP hD hS hA [1, 4] (by decide +kernel) rfl
        refine va_calli (va_runV (As := []) (rest := []) ⟨hx, hb, hml, hown, hts⟩ (ck_X1_day l dC dI cyB cyI cyJ cyP jh8 jhy H.size (jiJ) (.ref jaR) (.ref jb6) jjV   hw) (cwV 0 hts gX10_ahead_X1_day rfl rfl rfl (by decide +kernel) ⟨Nat.le_of_ble_eq_true rfl, Nat.le_of_ble_eq_true rfl⟩) ⟨cPc_blind, va_recv (q := (RX1, TX1, 4)) hK hPc (ci := 1) (q0 := 0) rfl rfl, cPc_pre hPc hK hDc hNw⟩ rfl rfl hl.1 rfl (lv_room (Nat.le_of_ble_eq_true rfl)) (dt_of tkX10_ahead_k72 2 rfl) ⟨Nat.le_of_ble_eq_true rfl, Nat.le_of_ble_eq_true rfl⟩) hS (fun q _ h => hFc q h) hFc (fun r6 u t H1 locs ht hvm hw hB hz1 hk1 hS => ?_)
        obtain ⟨hP1, hK1, hD1⟩ := hB
        rw [ht] at hP1
        obtain ⟨hP, hD⟩ := va_joinN (wr := (wd00_16 a0 jaK jfP ja1 jcp jbc jbV ja3 jbH jaT jh8 jaq jac jbI jbl jbn jba jaa jbA jbz jaT jbb jbr jaR jb6 jbb cyI jbQ jaR jcB jcC jbo jbp jbk jcF jbe jbq jef jbm jbi jdB jcF cyI jfQ)) (w1 := (wd00_15 jh8 jhy jiJ jaR jb6 jhy cyI jjV)) (wn := (wd00_13 a0 jaK jfP ja1 jcp jbc jbV ja3 jbH jaT jh8 jaq jac jbI jbl jbn jba jaa jbA jbz jh8 jhy jiJ jaR jb6 jaT jbb jbr jaR jb6 jbb cyI jbQ jhy cyI jjV jaR jcB jcC jbo jbp jbk jcF jbe jbq jef jbm jbi jdB jcF cyI jfQ)) hP hD [1, 4] [0, 2, 3, 5, 6] [0, 5, 1, 2, 6, 3, 4] hCc rfl (by decide +kernel) (by decide +kernel) (by decide +kernel) rfl hk1 hFc hP1 hD1
        generalize H1 = H at hP hS ⊢
        exact vx_ret (W.widen (k := 2) (n := 12) (Nat.le_of_ble_eq_true rfl) (Nat.le_of_ble_eq_true rfl) (W.iret (v := r6) hx hb hr (fun t ht hW => ⟨⟨r6, (jbz, jjV, (.ref jaR), (.ref jb6)), rfl, hw, by rw [ht]; exact hP, va_K.moved hW.alike hK, hD⟩, hS.F ht⟩) hS.2.2 (dt_of tkX10_ahead_k72 3 rfl)))
      have hw := hw.2 c5
      by_cases c7 : l2 = 1
      · have hw := hw.1 c7
        refine lv_lookup (tgt := 80) (off := 33) hx hb dX10_ahead_47 (by decide) (by rw [c7]; decide) (by decide) ?_
        refine lv_aload_n hx hb (dt_of tkX10_ahead_k72 4 rfl) rfl (lv_at hl 0 rfl) ?_
        refine va_get (D := (dC, dI)) (ci := 10) (v := .ref jh8) (C := RX10) (T := TX10) (N := 19) hx hb hts ui_X10_ahead_X10 hown hK hP 0 rfl rfl 9 (by decide) (hts _ uw_X10_ahead_f62) (fun _ h9 => h9) rfl (dt_of tkX10_ahead_k72 5 rfl) ?_
        obtain ⟨hCc, hPc, hDc, hFc⟩ := va_pick (ws' := (wd00_15 jh8 jhy jiJ jaR jb6 jhy cyI jjV)) hP hD hS hA [1, 4] (by decide +kernel) rfl
        refine va_calli (va_runV (As := []) (rest := []) ⟨hx, hb, hml, hown, hts⟩ (ck_X1_caughtOnes l dC dI cyB cyI cyJ cyP jh8 jhy H.size (jiJ) (.ref jaR) (.ref jb6) jjV   hw) (cwV 0 hts gX10_ahead_X1_caughtOnes rfl rfl rfl (by decide +kernel) ⟨Nat.le_of_ble_eq_true rfl, Nat.le_of_ble_eq_true rfl⟩) ⟨cPc_blind, va_recv (q := (RX1, TX1, 4)) hK hPc (ci := 1) (q0 := 0) rfl rfl, cPc_pre hPc hK hDc hNw⟩ rfl rfl hl.1 rfl (lv_room (Nat.le_of_ble_eq_true rfl)) (dt_of tkX10_ahead_k72 6 rfl) ⟨Nat.le_of_ble_eq_true rfl, Nat.le_of_ble_eq_true rfl⟩) hS (fun q _ h => hFc q h) hFc (fun r8 u t H1 locs ht hvm hw hB hz1 hk1 hS => ?_)
        obtain ⟨hP1, hK1, hD1⟩ := hB
        rw [ht] at hP1
        obtain ⟨hP, hD⟩ := va_joinN (wr := (wd00_16 a0 jaK jfP ja1 jcp jbc jbV ja3 jbH jaT jh8 jaq jac jbI jbl jbn jba jaa jbA jbz jaT jbb jbr jaR jb6 jbb cyI jbQ jaR jcB jcC jbo jbp jbk jcF jbe jbq jef jbm jbi jdB jcF cyI jfQ)) (w1 := (wd00_15 jh8 jhy jiJ jaR jb6 jhy cyI jjV)) (wn := (wd00_13 a0 jaK jfP ja1 jcp jbc jbV ja3 jbH jaT jh8 jaq jac jbI jbl jbn jba jaa jbA jbz jh8 jhy jiJ jaR jb6 jaT jbb jbr jaR jb6 jbb cyI jbQ jhy cyI jjV jaR jcB jcC jbo jbp jbk jcF jbe jbq jef jbm jbi jdB jcF cyI jfQ)) hP hD [1, 4] [0, 2, 3, 5, 6] [0, 5, 1, 2, 6, 3, 4] hCc rfl (by decide +kernel) (by decide +kernel) (by decide +kernel) rfl hk1 hFc hP1 hD1
        generalize H1 = H at hP hS ⊢
        exact vx_ret (W.widen (k := 2) (n := 12) (Nat.le_of_ble_eq_true rfl) (Nat.le_of_ble_eq_true rfl) (W.iret (v := r8) hx hb hr (fun t ht hW => ⟨⟨r8, (jbz, jjV, (.ref jaR), (.ref jb6)), rfl, hw, by rw [ht]; exact hP, va_K.moved hW.alike hK, hD⟩, hS.F ht⟩) hS.2.2 (dt_of tkX10_ahead_k72 7 rfl)))
      have hw := hw.2 c7
      refine lv_lookup (tgt := 88) (off := 41) hx hb dX10_ahead_47 (by decide) (by have nc5 := lk_neI (n := 0) c5 rfl; have nc7 := lk_neI (n := 1) c7 rfl; simp [Op.lookupswitch.offset, nc5, nc7]) (by decide) ?_
      refine lv_aload_n hx hb (dt_of tkX10_ahead_k72 8 rfl) rfl (lv_at hl 0 rfl) ?_
      refine va_get (D := (dC, dI)) (ci := 10) (v := .ref jh8) (C := RX10) (T := TX10) (N := 19) hx hb hts ui_X10_ahead_X10 hown hK hP 0 rfl rfl 9 (by decide) (hts _ uw_X10_ahead_f62) (fun _ h9 => h9) rfl (dt_of tkX10_ahead_k72 9 rfl) ?_
      obtain ⟨hCc, hPc, hDc, hFc⟩ := va_pick (ws' := (wd00_17 jh8 jhy jiJ jaR jb6 jaR jcB jcC jbo jbp jbk jcF jbe jbq jef jbm jbi jdB jhy cyI jjV)) hP hD hS hA [1, 5, 4] (by decide +kernel) rfl
      refine va_calli (va_runV (As := []) (rest := []) ⟨hx, hb, hml, hown, hts⟩ (ck_X1_allDebts l dC dI cyB cyI cyJ cyP jh8 jaR jhy H.size (jiJ) (.ref jb6) (jcB) (jcC) (jbo) (jbp) (jbk) (.ref jcF) (jbe) (jbq) (jef) (jbi) (.int jdB) jbm jjV   hw) (cwV 0 hts gX10_ahead_X1_allDebts rfl rfl rfl (by decide +kernel) ⟨Nat.le_of_ble_eq_true rfl, Nat.le_of_ble_eq_true rfl⟩) ⟨cPc_blind, va_recv (q := (RX1, TX1, 4)) hK hPc (ci := 1) (q0 := 0) rfl rfl, cPc_pre hPc hK hDc hNw⟩ rfl rfl hl.1 rfl (lv_room (Nat.le_of_ble_eq_true rfl)) (dt_of tkX10_ahead_k72 10 rfl) ⟨Nat.le_of_ble_eq_true rfl, Nat.le_of_ble_eq_true rfl⟩) hS (fun q _ h => hFc q h) hFc (fun r9 u t H1 locs ht hvm hw hB hz1 hk1 hS => ?_)
      obtain ⟨hP1, hK1, hD1⟩ := hB
      rw [ht] at hP1
      obtain ⟨hP, hD⟩ := va_joinN (wr := [(a0, .inr (10, [jaK, jfP, ja1, jcp, jbc, jbV, ja3, jbH, .ref jaT, .ref jh8, jaq, jac, jbI, jbl, jbn, jba, jaa, jbA, .int jbz])), (jaT, .inr (1, [.ref jbb, jbr, .ref jaR, .ref jb6])), (jbb, .inl (cyI, 64, .inl jbQ)), (jcF, .inl (cyI, 6, .inl jfQ))]) (w1 := (wd00_17 jh8 jhy jiJ jaR jb6 jaR jcB jcC jbo jbp jbk jcF jbe jbq jef jbm jbi jdB jhy cyI jjV)) (wn := (wd00_13 a0 jaK jfP ja1 jcp jbc jbV ja3 jbH jaT jh8 jaq jac jbI jbl jbn jba jaa jbA jbz jh8 jhy jiJ jaR jb6 jaT jbb jbr jaR jb6 jbb cyI jbQ jhy cyI jjV jaR jcB jcC jbo jbp jbk jcF jbe jbq jef jbm jbi jdB jcF cyI jfQ)) hP hD [1, 5, 4] [0, 2, 3, 6] [0, 4, 1, 2, 6, 5, 3] hCc rfl (by decide +kernel) (by decide +kernel) (by decide +kernel) rfl hk1 hFc hP1 hD1
      generalize H1 = H at hP hS ⊢
      exact vx_ret (W.widen (k := 2) (n := 12) (Nat.le_of_ble_eq_true rfl) (Nat.le_of_ble_eq_true rfl) (W.iret (v := r9) hx hb hr (fun t ht hW => ⟨⟨r9, (jbz, jjV, (.ref jaR), (.ref jb6)), rfl, hw, by rw [ht]; exact hP, va_K.moved hW.alike hK, hD⟩, hS.F ht⟩) hS.2.2 (dt_of tkX10_ahead_k72 11 rfl)))
    · have hw := hw.2 c4
      refine lv_aload_n hx hb (dt_of tkX10_ahead_k27 4 rfl) rfl (lv_at hl 0 rfl) ?_
      refine va_get (D := (dC, dI)) (ci := 10) (v := .ref jh8) (C := RX10) (T := TX10) (N := 19) hx hb hts ui_X10_ahead_X10 hown hK hP 0 rfl rfl 9 (by decide) (hts _ uw_X10_ahead_f62) (fun _ h9 => h9) rfl (dt_of tkX10_ahead_k27 5 rfl) ?_
      obtain ⟨hCc, hPc, hDc, hFc⟩ := va_pick (ws' := (wd00_18 jh8 jhy jiJ jaR jb6 jaR jcB jcC jbo jbp jbk jcF jbe jbq jef jbm jbi jdB jhy cyI jjV jcF cyI jfQ)) hP hD hS hA [1, 5, 4, 6] (by decide +kernel) rfl
      refine va_callv (va_runV (As := []) (rest := []) ⟨hx, hb, hml, hown, hts⟩ (ck_X1_passDay l dC dI cyB cyI cyJ cyP jh8 jaR jhy jcF H.size (jiJ) (.ref jb6) (jcB) (jcC) (jbo) (jbp) (jbk) (jbe) (jbq) (jef) (jbi) jbm jdB jfQ jjV  hw) (cwV 0 hts gX10_ahead_X1_passDay rfl rfl rfl (by decide +kernel) ⟨Nat.le_of_ble_eq_true rfl, Nat.le_of_ble_eq_true rfl⟩) ⟨cPc_blind, va_recv (q := (RX1, TX1, 4)) hK hPc (ci := 1) (q0 := 0) rfl rfl, cPc_pre hPc hK hDc hNw⟩ rfl rfl hl.1 rfl (lv_room (Nat.le_of_ble_eq_true rfl)) (dt_of tkX10_ahead_k27 6 rfl) ⟨Nat.le_of_ble_eq_true rfl, Nat.le_of_ble_eq_true rfl⟩) hS (fun q _ h => hFc q h) hFc (fun u t H1 locs ht hvm hw hB hz1 hk1 hS => ?_)
      obtain ⟨f10, rfl⟩ : ∃ z, z = u := ⟨_, rfl⟩
      obtain ⟨hP1, hK1, hD1⟩ := hB
      rw [ht] at hP1
      obtain ⟨hP, hD⟩ := va_joinN (wr := [(a0, .inr (10, [jaK, jfP, ja1, jcp, jbc, jbV, ja3, jbH, .ref jaT, .ref jh8, jaq, jac, jbI, jbl, jbn, jba, jaa, jbA, .int jbz])), (jaT, .inr (1, [.ref jbb, jbr, .ref jaR, .ref jb6])), (jbb, .inl (cyI, 64, .inl jbQ))]) (w1 := (wd00_18 jh8 jhy jiJ jaR jb6 jaR jcB jcC jbo jbp jbk jcF jbe jbq jef jbm jbi jdB jhy cyI f10 jcF cyI jfQ)) (wn := (wd00_13 a0 jaK jfP ja1 jcp jbc jbV ja3 jbH jaT jh8 jaq jac jbI jbl jbn jba jaa jbA jbz jh8 jhy jiJ jaR jb6 jaT jbb jbr jaR jb6 jbb cyI jbQ jhy cyI f10 jaR jcB jcC jbo jbp jbk jcF jbe jbq jef jbm jbi jdB jcF cyI jfQ)) hP hD [1, 5, 4, 6] [0, 2, 3] [0, 3, 1, 2, 5, 4, 6] hCc rfl (by decide +kernel) (by decide +kernel) (by decide +kernel) rfl hk1 hFc hP1 hD1
      generalize H1 = H at hP hS ⊢
      obtain ⟨x11, ex11⟩ : ∃ y : Int32, y = l3 + 1 := ⟨_, rfl⟩
      have hw := hw x11 ex11
      refine lv_iinc (v := x11) (lv' := [(3, .int x11), (0, .ref a0), (1, .int l1), (2, .int l2)]) hx hb (dt_of tkX10_ahead_k27 7 rfl) hl (k := 3) rfl (by rw [ex11]; rfl) (by decide) rfl (fun ls hl => ?_)
      refine lv_goto (tgt := 28) hx hb (dt_of tkX10_ahead_k27 8 rfl) (by decide) ?_
      exact ih _ _ _ jbz f10 (.ref jaR) (.ref jb6) l1 l2 x11 hP hD hS (lv_sub hl [1, 2, 3, 0] rfl) hw
set_option maxHeartbeats 4000000 in
set_option maxRecDepth 100000 in
theorem ck_X10_ahead (l : Launch) (dC : Nat → ClassId) (dI : Nat → Nat → Nat) (cyB cyI cyJ cyP : ClassId) (a0 jh8 jaT jbb jhy jaR jb6 jcF sz : Nat) (jaK jfP ja1 jcp jbc jbV ja3 jbH jaq jac jbI jbl jbn jba jaa jbA jiJ jbr jcB jcC jbo jbp jbk jbe jbq jef jbi : Value) (jbQ : Nat → Int32) (jbm jdB : Int32) (jfQ : Nat → Int32) (jbz : Int32) (jjV : Nat → Int32) (jkp jkP : Value) (p1 p2 : Int32) {E : String → Int32 → (Nat → Int32) → Value → Value → Prop} {Q : Int32 → Int32 → (Nat → Int32) → Value → Value → Prop} (hw : wq_X10_ahead jaR jb6 jbQ jbm jdB jfQ jbz jjV jkp jkP p1 p2 E Q) : vx_Met l yX10_ahead wsX10_ahead ({ frames := 8, cells := 2, slots := 12, locals := 164 }) (va_Pc [.ref a0, .int p1, .int p2] (cPx l (dC, dI) (kT cyB cyI cyJ cyP) (wd00_14 a0 jaK jfP ja1 jcp jbc jbV ja3 jbH jaT jh8 jaq jac jbI jbl jbn jba jaa jbA jbz jh8 jhy jiJ jkp jkP jaT jbb jbr jaR jb6 jbb cyI jbQ jhy cyI jjV jaR jcB jcC jbo jbp jbk jcF jbe jbq jef jbm jbi jdB jcF cyI jfQ) sz)) (va_Qi (fun (r : Int32) (u : Int32 × (Nat → Int32) × Value × Value) => Q r u.1 u.2.1 u.2.2.1 u.2.2.2) (cB (dC, dI) (kT cyB cyI cyJ cyP) (va_A (wd00_14 a0 jaK jfP ja1 jcp jbc jbV ja3 jbH jaT jh8 jaq jac jbI jbl jbn jba jaa jbA jbz jh8 jhy jiJ jkp jkP jaT jbb jbr jaR jb6 jbb cyI jbQ jhy cyI jjV jaR jcB jcC jbo jbp jbk jcF jbe jbq jef jbm jbi jdB jcF cyI jfQ) sz) (fun u : Int32 × (Nat → Int32) × Value × Value => ((wd00_14 a0 jaK jfP ja1 jcp jbc jbV ja3 jbH jaT jh8 jaq jac jbI jbl jbn jba jaa jbA u.1 jh8 jhy jiJ u.2.2.1 u.2.2.2 jaT jbb jbr jaR jb6 jbb cyI jbQ jhy cyI u.2.1 jaR jcB jcC jbo jbp jbk jcF jbe jbq jef jbm jbi jdB jcF cyI jfQ) : va_W))) (va_A (wd00_14 a0 jaK jfP ja1 jcp jbc jbV ja3 jbH jaT jh8 jaq jac jbI jbl jbn jba jaa jbA jbz jh8 jhy jiJ jkp jkP jaT jbb jbr jaR jb6 jbb cyI jbQ jhy cyI jjV jaR jcB jcC jbo jbp jbk jcF jbe jbq jef jbm jbi jdB jcF cyI jfQ) sz)) (vx_X (fun _ => True) (fun (en : String) (u : Int32 × (Nat → Int32) × Value × Value) (t : State) => E en u.1 u.2.1 u.2.2.1 u.2.2.2 ∧ cB (dC, dI) (kT cyB cyI cyJ cyP) (va_A (wd00_14 a0 jaK jfP ja1 jcp jbc jbV ja3 jbH jaT jh8 jaq jac jbI jbl jbn jba jaa jbA jbz jh8 jhy jiJ jkp jkP jaT jbb jbr jaR jb6 jbb cyI jbQ jhy cyI jjV jaR jcB jcC jbo jbp jbk jcF jbe jbq jef jbm jbi jdB jcF cyI jfQ) sz) (fun u : Int32 × (Nat → Int32) × Value × Value => ((wd00_14 a0 jaK jfP ja1 jcp jbc jbV ja3 jbH jaT jh8 jaq jac jbI jbl jbn jba jaa jbA u.1 jh8 jhy jiJ u.2.2.1 u.2.2.2 jaT jbb jbr jaR jb6 jbb cyI jbQ jhy cyI u.2.1 jaR jcB jcC jbo jbp jbk jcF jbe jbq jef jbm jbi jdB jcF cyI jfQ) : va_W)) u t) (va_A (wd00_14 a0 jaK jfP ja1 jcp jbc jbV ja3 jbH jaT jh8 jaq jac jbI jbl jbn jba jaa jbA jbz jh8 jhy jiJ jkp jkP jaT jbb jbr jaR jb6 jbb cyI jbQ jhy cyI jjV jaR jcB jcC jbo jbp jbk jcF jbe jbq jef jbm jbi jdB jcF cyI jfQ) sz)) 2 12 (va_A (wd00_14 a0 jaK jfP ja1 jcp jbc jbV ja3 jbH jaT jh8 jaq jac jbI jbl jbn jba jaa jbA jbz jh8 jhy jiJ jkp jkP jaT jbb jbr jaR jb6 jbb cyI jbQ jhy cyI jjV jaR jcB jcC jbo jbp jbk jcF jbe jbq jef jbm jbi jdB jcF cyI jfQ) sz) := by
  refine vx_ofW (cc := cX10_ahead) (maxL := 4) (ret := (some .int)) (by decide) rfl ?_
  intro p e s m args below meth c s₁ B hml hnt hv
  obtain ⟨rfl, hsz, hP, hK, hD0, hNw, hXl, hXu, hXn, hXt⟩ := hv
  have hx := B.exec
  have hb := B.bytes
  have hr := B.returns
  have hts := atoms_spec (ws := wsX10_ahead) B.pre
  have hown : s.vm.findClass RX10 = some m.cls := findClass_of_methodNamed B.named
  have hlocks := B.notSynchronized
  subst hsz
  have hD := hD0.self (sz := s.heap.size)
  generalize hAe : va_A (wd00_14 a0 jaK jfP ja1 jcp jbc jbV ja3 jbH jaT jh8 jaq jac jbI jbl jbn jba jaa jbA jbz jh8 jhy jiJ jkp jkP jaT jbb jbr jaR jb6 jbb cyI jbQ jhy cyI jjV jaR jcB jcC jbo jbp jbk jcF jbe jbq jef jbm jbi jdB jcF cyI jfQ) s.heap.size = A at hD hXu hXn ⊢
  have hA : ∀ q : Nat, s.heap.size ≤ q → A q := fun q h => by rw [← hAe]; exact Or.inr h
  have hS : va_S A s.heap s.heap [] := va_S.rf
  have hP : va_P (dC, dI) vwCl (wd00_14 a0 jaK jfP ja1 jcp jbc jbV ja3 jbH jaT jh8 jaq jac jbI jbl jbn jba jaa jbA jbz jh8 jhy jiJ jkp jkP jaT jbb jbr jaR jb6 jbb cyI jbQ jhy cyI jjV jaR jcB jcC jbo jbp jbk jcF jbe jbq jef jbm jbi jdB jcF cyI jfQ) s.heap := hP
  have hl := lv_entry ([.ref a0, .int p1, .int p2]) (n := 4) (Nat.le_of_ble_eq_true rfl)
  rw [lg_entry_eq]
  generalize (lg_sl ([.ref a0, .int p1, .int p2]) ++ List.replicate (4 - (lg_sl ([.ref a0, .int p1, .int p2])).length) Slot.unset).toArray = ls at hl ⊢
  have hl : lv_has ls 4 [(0, .ref a0), (1, .int p1), (2, .int p2)] := hl
  have hY : cfY l s A := ⟨hXl, hXu, hXn, hXt⟩
  have hXs : cfX l s c A := ⟨hnt, hY⟩
  have C0 : cfx p s m _ meth c cX10_ahead (some .int) wsX10_ahead RX10 4 A (dC, dI) (kT cyB cyI cyJ cyP) ∧ cfX l s c A := ⟨⟨hx, hb, hr, hts, hown, hlocks, hml, hA, hK, hNw⟩, hXs⟩
  clear hAe
  obtain ⟨H, hH⟩ : ∃ H, H = s.heap := ⟨_, rfl⟩
  rw [← hH] at hP ⊢
  have hS : va_S A s.heap H [] := by rw [hH]; exact va_S.rf
  have hS := hS
  refine lv_aload_n hx hb (dt_of tkX10_ahead_k0 0 rfl) rfl (lv_at hl 0 rfl) ?_
  refine lv_iload_n hx hb (dt_of tkX10_ahead_k0 1 rfl) rfl (lv_at hl 1 rfl) ?_
  refine lv_iconst (v := 0) hx hb (dt_of tkX10_ahead_k0 2 rfl) (by decide) ?_
  refine lv_bipush (v := 99) hx hb (dt_of tkX10_ahead_k0 3 rfl) (by decide) ?_
  obtain ⟨hCc, hPc, hDc, hFc⟩ := va_pick (ws' := (wd00_19 a0 jaK jfP ja1 jcp jbc jbV ja3 jbH jaT jh8 jaq jac jbI jbl jbn jba jaa jbA jbz)) hP hD hS hA [0] (by decide +kernel) rfl
  refine vx_callv (vx_runV (As := [.int p1, .int 0, .int 99]) (rest := []) ⟨hx, hb, hml, hown, hts⟩ (ck_X10_needWithin l dC dI cyB cyI cyJ cyP a0 H.size (jaK) (jfP) (ja1) (jcp) (jbc) (jbV) (ja3) (jbH) (.ref jaT) (.ref jh8) (jaq) (jac) (jbI) (jbl) (jbn) (jba) (jaa) (jbA)  jbz p1 0 99 hw) (cwV 3 hts gX10_ahead_X10_needWithin rfl rfl rfl (by decide +kernel) ⟨Nat.le_of_ble_eq_true rfl, Nat.le_of_ble_eq_true rfl⟩) ⟨cPx_blind, va_recv (q := (RX10, TX10, 19)) hK hPc (ci := 10) (q0 := 0) rfl rfl, cPx_pre hPc hK hDc hNw hY hS hFc⟩ rfl rfl hl.1 rfl (lv_room (Nat.le_of_ble_eq_true rfl)) (dt_of tkX10_ahead_k0 4 rfl) ⟨Nat.le_of_ble_eq_true rfl, Nat.le_of_ble_eq_true rfl⟩) hS (fun q _ h => hFc q h) hFc (fun q _ h => hFc q h) (fun en ce q9 u t H1 locs ht hvm hpx hB hz1 hk1 hS hc9 hv9 hcl9 => ?_) (fun u t H1 locs ht hvm hw hB hz1 hk1 hS => ?_)
  · obtain ⟨x1, rfl⟩ : ∃ z, z = u := ⟨_, rfl⟩
    obtain ⟨hw, hP1, hK1, hD1⟩ := hB
    rw [ht] at hP1
    obtain ⟨hP, hD⟩ := va_joinN (wr := (wd00_20 jh8 jhy jiJ jkp jkP jaT jbb jbr jaR jb6 jbb cyI jbQ jhy cyI jjV jaR jcB jcC jbo jbp jbk jcF jbe jbq jef jbm jbi jdB jcF cyI jfQ)) (w1 := (wd00_19 a0 jaK jfP ja1 jcp jbc jbV ja3 jbH jaT jh8 jaq jac jbI jbl jbn jba jaa jbA x1)) (wn := (wd00_14 a0 jaK jfP ja1 jcp jbc jbV ja3 jbH jaT jh8 jaq jac jbI jbl jbn jba jaa jbA x1 jh8 jhy jiJ jkp jkP jaT jbb jbr jaR jb6 jbb cyI jbQ jhy cyI jjV jaR jcB jcC jbo jbp jbk jcF jbe jbq jef jbm jbi jdB jcF cyI jfQ)) hP hD [0] [1, 2, 3, 4, 5, 6] [6, 0, 1, 2, 3, 4, 5] hCc rfl (by decide +kernel) (by decide +kernel) (by decide +kernel) rfl hk1 hFc hP1 hD1
    generalize H1 = H at hP hS hc9 ⊢
    exact vx_out (fun x hx9 => (hXs.1 x hx9).elim) hlocks hc9 hv9 hcl9 (fun t2 ht2 hal2 => ⟨(x1, jjV, jkp, jkP), trivial, ⟨hw, by rw [ht2]; exact hP, va_K.moved hal2 hK, hD⟩, hS.F ht2⟩) hS.2.2 (Nat.le_of_ble_eq_true rfl) (Nat.le_of_ble_eq_true rfl)
  obtain ⟨x1, rfl⟩ : ∃ z, z = u := ⟨_, rfl⟩
  obtain ⟨hP1, hK1, hD1⟩ := hB
  rw [ht] at hP1
  obtain ⟨hP, hD⟩ := va_joinN (wr := (wd00_20 jh8 jhy jiJ jkp jkP jaT jbb jbr jaR jb6 jbb cyI jbQ jhy cyI jjV jaR jcB jcC jbo jbp jbk jcF jbe jbq jef jbm jbi jdB jcF cyI jfQ)) (w1 := (wd00_19 a0 jaK jfP ja1 jcp jbc jbV ja3 jbH jaT jh8 jaq jac jbI jbl jbn jba jaa jbA x1)) (wn := (wd00_14 a0 jaK jfP ja1 jcp jbc jbV ja3 jbH jaT jh8 jaq jac jbI jbl jbn jba jaa jbA x1 jh8 jhy jiJ jkp jkP jaT jbb jbr jaR jb6 jbb cyI jbQ jhy cyI jjV jaR jcB jcC jbo jbp jbk jcF jbe jbq jef jbm jbi jdB jcF cyI jfQ)) hP hD [0] [1, 2, 3, 4, 5, 6] [6, 0, 1, 2, 3, 4, 5] hCc rfl (by decide +kernel) (by decide +kernel) (by decide +kernel) rfl hk1 hFc hP1 hD1
  generalize H1 = H at hP hS ⊢
  refine lv_aload_n hx hb (dt_of tkX10_ahead_k0 5 rfl) rfl (lv_at hl 0 rfl) ?_
  refine lv_iload_n hx hb (dt_of tkX10_ahead_k0 6 rfl) rfl (lv_at hl 2 rfl) ?_
  refine lv_iconst (v := 0) hx hb (dt_of tkX10_ahead_k0 7 rfl) (by decide) ?_
  refine lv_iconst (v := 2) hx hb (dt_of tkX10_ahead_k0 8 rfl) (by decide) ?_
  obtain ⟨hCc, hPc, hDc, hFc⟩ := va_pick (ws' := (wd00_19 a0 jaK jfP ja1 jcp jbc jbV ja3 jbH jaT jh8 jaq jac jbI jbl jbn jba jaa jbA x1)) hP hD hS hA [0] (by decide +kernel) rfl
  refine vx_callv (vx_runV (As := [.int p2, .int 0, .int 2]) (rest := []) ⟨hx, hb, hml, hown, hts⟩ (ck_X10_needWithin l dC dI cyB cyI cyJ cyP a0 H.size (jaK) (jfP) (ja1) (jcp) (jbc) (jbV) (ja3) (jbH) (.ref jaT) (.ref jh8) (jaq) (jac) (jbI) (jbl) (jbn) (jba) (jaa) (jbA)  x1 p2 0 2 hw) (cwV 3 hts gX10_ahead_X10_needWithin rfl rfl rfl (by decide +kernel) ⟨Nat.le_of_ble_eq_true rfl, Nat.le_of_ble_eq_true rfl⟩) ⟨cPx_blind, va_recv (q := (RX10, TX10, 19)) hK hPc (ci := 10) (q0 := 0) rfl rfl, cPx_pre hPc hK hDc hNw hY hS hFc⟩ rfl rfl hl.1 rfl (lv_room (Nat.le_of_ble_eq_true rfl)) (dt_of tkX10_ahead_k0 9 rfl) ⟨Nat.le_of_ble_eq_true rfl, Nat.le_of_ble_eq_true rfl⟩) hS (fun q _ h => hFc q h) hFc (fun q _ h => hFc q h) (fun en ce q9 u t H1 locs ht hvm hpx hB hz1 hk1 hS hc9 hv9 hcl9 => ?_) (fun u t H1 locs ht hvm hw hB hz1 hk1 hS => ?_)
  · obtain ⟨x2, rfl⟩ : ∃ z, z = u := ⟨_, rfl⟩
    obtain ⟨hw, hP1, hK1, hD1⟩ := hB
    rw [ht] at hP1
    obtain ⟨hP, hD⟩ := va_joinN (wr := (wd00_20 jh8 jhy jiJ jkp jkP jaT jbb jbr jaR jb6 jbb cyI jbQ jhy cyI jjV jaR jcB jcC jbo jbp jbk jcF jbe jbq jef jbm jbi jdB jcF cyI jfQ)) (w1 := (wd00_19 a0 jaK jfP ja1 jcp jbc jbV ja3 jbH jaT jh8 jaq jac jbI jbl jbn jba jaa jbA x2)) (wn := (wd00_14 a0 jaK jfP ja1 jcp jbc jbV ja3 jbH jaT jh8 jaq jac jbI jbl jbn jba jaa jbA x2 jh8 jhy jiJ jkp jkP jaT jbb jbr jaR jb6 jbb cyI jbQ jhy cyI jjV jaR jcB jcC jbo jbp jbk jcF jbe jbq jef jbm jbi jdB jcF cyI jfQ)) hP hD [0] [1, 2, 3, 4, 5, 6] [6, 0, 1, 2, 3, 4, 5] hCc rfl (by decide +kernel) (by decide +kernel) (by decide +kernel) rfl hk1 hFc hP1 hD1
    generalize H1 = H at hP hS hc9 ⊢
    exact vx_out (fun x hx9 => (hXs.1 x hx9).elim) hlocks hc9 hv9 hcl9 (fun t2 ht2 hal2 => ⟨(x2, jjV, jkp, jkP), trivial, ⟨hw, by rw [ht2]; exact hP, va_K.moved hal2 hK, hD⟩, hS.F ht2⟩) hS.2.2 (Nat.le_of_ble_eq_true rfl) (Nat.le_of_ble_eq_true rfl)
  obtain ⟨x2, rfl⟩ : ∃ z, z = u := ⟨_, rfl⟩
  obtain ⟨hP1, hK1, hD1⟩ := hB
  rw [ht] at hP1
  obtain ⟨hP, hD⟩ := va_joinN (wr := (wd00_20 jh8 jhy jiJ jkp jkP jaT jbb jbr jaR jb6 jbb cyI jbQ jhy cyI jjV jaR jcB jcC jbo jbp jbk jcF jbe jbq jef jbm jbi jdB jcF cyI jfQ)) (w1 := (wd00_19 a0 jaK jfP ja1 jcp jbc jbV ja3 jbH jaT jh8 jaq jac jbI jbl jbn jba jaa jbA x2)) (wn := (wd00_14 a0 jaK jfP ja1 jcp jbc jbV ja3 jbH jaT jh8 jaq jac jbI jbl jbn jba jaa jbA x2 jh8 jhy jiJ jkp jkP jaT jbb jbr jaR jb6 jbb cyI jbQ jhy cyI jjV jaR jcB jcC jbo jbp jbk jcF jbe jbq jef jbm jbi jdB jcF cyI jfQ)) hP hD [0] [1, 2, 3, 4, 5, 6] [6, 0, 1, 2, 3, 4, 5] hCc rfl (by decide +kernel) (by decide +kernel) (by decide +kernel) rfl hk1 hFc hP1 hD1
  generalize H1 = H at hP hS ⊢
  refine lv_aload_n hx hb (dt_of tkX10_ahead_k0 10 rfl) rfl (lv_at hl 0 rfl) ?_
  refine va_get (D := (dC, dI)) (ci := 10) (v := .ref jh8) (C := RX10) (T := TX10) (N := 19) hx hb hts ui_X10_ahead_X10 hown hK hP 0 rfl rfl 9 (by decide) (hts _ uw_X10_ahead_f62) (fun _ h9 => h9) rfl (dt_of tkX10_ahead_k0 11 rfl) ?_
  refine lv_aload_n hx hb (dt_of tkX10_ahead_k0 12 rfl) rfl (lv_at hl 0 rfl) ?_
  refine va_get (D := (dC, dI)) (ci := 10) (v := .ref jaT) (C := RX10) (T := TX10) (N := 19) hx hb hts ui_X10_ahead_X10 hown hK hP 0 rfl rfl 8 (by decide) (hts _ uw_X10_ahead_f58) (fun _ h9 => h9) rfl (dt_of tkX10_ahead_k0 13 rfl) ?_
  obtain ⟨hCc, hPc, hDc, hFc⟩ := va_pick (ws' := (wd00_1 jh8 jhy jiJ jkp jkP jaT jbb jbr jaR jb6 jbb cyI jbQ jhy cyI jjV)) hP hD hS hA [1, 2, 3, 4] (by decide +kernel) rfl
  refine va_callv (va_runV (As := [.ref jaT]) (rest := []) ⟨hx, hb, hml, hown, hts⟩ (ck_X1_copyFrom l dC dI cyB cyI cyJ cyP jh8 jaT jaR jb6 jbb jhy H.size (jiJ) (jkp) (jkP) (jbr) jbQ jjV  hw) (cwV 1 hts gX10_ahead_X1_copyFrom rfl rfl rfl (by decide +kernel) ⟨Nat.le_of_ble_eq_true rfl, Nat.le_of_ble_eq_true rfl⟩) ⟨cPc_blind, va_recv (q := (RX1, TX1, 4)) hK hPc (ci := 1) (q0 := 0) rfl rfl, cPc_pre hPc hK hDc hNw⟩ rfl rfl hl.1 rfl (lv_room (Nat.le_of_ble_eq_true rfl)) (dt_of tkX10_ahead_k0 14 rfl) ⟨Nat.le_of_ble_eq_true rfl, Nat.le_of_ble_eq_true rfl⟩) hS (fun q _ h => hFc q h) hFc (fun u t H1 locs ht hvm hw hB hz1 hk1 hS => ?_)
  obtain ⟨f3, rfl⟩ : ∃ z, z = u := ⟨_, rfl⟩
  obtain ⟨hP1, hK1, hD1⟩ := hB
  rw [ht] at hP1
  obtain ⟨hP, hD⟩ := va_joinN (wr := [(a0, .inr (10, [jaK, jfP, ja1, jcp, jbc, jbV, ja3, jbH, .ref jaT, .ref jh8, jaq, jac, jbI, jbl, jbn, jba, jaa, jbA, .int x2])), (jaR, .inr (2, [jcB, jcC, jbo, jbp, jbk, .ref jcF, jbe, jbq, jef, .int jbm, jbi, .int jdB])), (jcF, .inl (cyI, 6, .inl jfQ))]) (w1 := (wd00_2 jh8 jhy jiJ jaR jb6 jaT jbb jbr jaR jb6 jbb cyI jbQ jhy cyI f3)) (wn := (wd00_13 a0 jaK jfP ja1 jcp jbc jbV ja3 jbH jaT jh8 jaq jac jbI jbl jbn jba jaa jbA x2 jh8 jhy jiJ jaR jb6 jaT jbb jbr jaR jb6 jbb cyI jbQ jhy cyI f3 jaR jcB jcC jbo jbp jbk jcF jbe jbq jef jbm jbi jdB jcF cyI jfQ)) hP hD [1, 2, 3, 4] [0, 5, 6] [0, 3, 4, 5, 6, 1, 2] hCc rfl (by decide +kernel) (by decide +kernel) (by decide +kernel) rfl hk1 hFc hP1 hD1
  generalize H1 = H at hP hS ⊢
  refine lv_iconst (v := 0) hx hb (dt_of tkX10_ahead_k0 15 rfl) (by decide) ?_
  refine lv_istore_n (lv' := [(3, .int 0), (0, .ref a0), (1, .int p1), (2, .int p2)]) hx hb (dt_of tkX10_ahead_k27 0 rfl) rfl hl (by decide) rfl (fun ls hl => ?_)
  obtain ⟨n9, hw⟩ := hw
  exact kl_X10_ahead_28 dC dI cyB cyI cyJ cyP a0 jh8 jaT jbb jhy jaR jb6 jcF jaK jfP ja1 jcp jbc jbV ja3 jbH jaq jac jbI jbl jbn jba jaa jbA jiJ jbr jcB jcC jbo jbp jbk jbe jbq jef jbi jbQ jbm jdB jfQ E Q  C0 n9 _ _ _ x2 f3 (.ref jaR) (.ref jb6) p1 p2 0 hP hD hS (lv_sub hl [1, 2, 3, 0] rfl) hw
theorem uw_L_ahead_ct13 : (.classLink RL 13 "java/lang/IllegalArgumentException" : Cond) ∈ wsL_ahead := mbL_ahead 595 (by decide +kernel)
theorem uw_L_ahead_cw : (.codeWith yL_ahead cL_ahead 5 (some .int) [(0, 10, 13, 13)] : Cond) ∈ wsL_ahead := mbL_ahead 2956 (by decide +kernel)
set_option maxHeartbeats 4000000 in
set_option maxRecDepth 100000 in
theorem ck_L_ahead (l : Launch) (dC : Nat → ClassId) (dI : Nat → Nat → Nat) (cyB cyI cyJ cyP : ClassId) (a0 a3 jh8 jaT jbb jhy jaR jcF jb6 sz : Nat) (jaK ja1 jbc jbV ja3 jbH jaq jac jbI jbl jbn jba jaa jbA jiJ jbr jcB jcC jbo jbp jbk jbe jbq jef jbi : Value) (n3 : Nat) (jbQ : Nat → Int32) (jbm jdB : Int32) (jfQ : Nat → Int32) (jbz : Int32) (jjV : Nat → Int32) (jkp jkP : Value) (f3 : Nat → Int64) (p1 p2 : Int32) {Q : Int32 → Int32 → (Nat → Int32) → Value → Value → (Nat → Int64) → Prop} (hw : wq_L_ahead jaR jb6 n3 jbQ jbm jdB jfQ jbz jjV jkp jkP f3 p1 p2 Q) : Met l yL_ahead wsL_ahead ({ frames := 9, cells := 2, slots := 12, locals := 187 }) (va_Pc [.ref a0, .int p1, .int p2, .ref a3] (cPx l (dC, dI) (kT cyB cyI cyJ cyP) (wd00_21 a0 jaK jaR ja1 jb6 jbc jbV ja3 jbH jaT jh8 jaq jac jbI jbl jbn jba jaa jbA jbz jh8 jhy jiJ jkp jkP jaT jbb jbr jaR jb6 jbb cyI jbQ jhy cyI jjV jaR jcB jcC jbo jbp jbk jcF jbe jbq jef jbm jbi jdB jcF cyI jfQ a3 cyJ n3 f3) sz)) (va_Qi (fun (r : Int32) (u : Int32 × (Nat → Int32) × Value × Value × (Nat → Int64)) => Q r u.1 u.2.1 u.2.2.1 u.2.2.2.1 u.2.2.2.2) (cB (dC, dI) (kT cyB cyI cyJ cyP) (va_A (wd00_21 a0 jaK jaR ja1 jb6 jbc jbV ja3 jbH jaT jh8 jaq jac jbI jbl jbn jba jaa jbA jbz jh8 jhy jiJ jkp jkP jaT jbb jbr jaR jb6 jbb cyI jbQ jhy cyI jjV jaR jcB jcC jbo jbp jbk jcF jbe jbq jef jbm jbi jdB jcF cyI jfQ a3 cyJ n3 f3) sz) (fun u : Int32 × (Nat → Int32) × Value × Value × (Nat → Int64) => ((wd00_21 a0 jaK jaR ja1 jb6 jbc jbV ja3 jbH jaT jh8 jaq jac jbI jbl jbn jba jaa jbA u.1 jh8 jhy jiJ u.2.2.1 u.2.2.2.1 jaT jbb jbr jaR jb6 jbb cyI jbQ jhy cyI u.2.1 jaR jcB jcC jbo jbp jbk jcF jbe jbq jef jbm jbi jdB jcF cyI jfQ a3 cyJ n3 u.2.2.2.2) : va_W))) (va_A (wd00_21 a0 jaK jaR ja1 jb6 jbc jbV ja3 jbH jaT jh8 jaq jac jbI jbl jbn jba jaa jbA jbz jh8 jhy jiJ jkp jkP jaT jbb jbr jaR jb6 jbb cyI jbQ jhy cyI jjV jaR jcB jcC jbo jbp jbk jcF jbe jbq jef jbm jbi jdB jcF cyI jfQ a3 cyJ n3 f3) sz)) 2 12 (va_A (wd00_21 a0 jaK jaR ja1 jb6 jbc jbV ja3 jbH jaT jh8 jaq jac jbI jbl jbn jba jaa jbA jbz jh8 jhy jiJ jkp jkP jaT jbb jbr jaR jb6 jbb cyI jbQ jhy cyI jjV jaR jcB jcC jbo jbp jbk jcF jbe jbq jef jbm jbi jdB jcF cyI jfQ a3 cyJ n3 f3) sz) := by
  refine va_MetW (cc := cL_ahead) (maxL := 5) (ret := (some .int)) (by decide) rfl ?_
  intro p e s m args below meth c s₁ B hml hv
  obtain ⟨rfl, hsz, hP, hK, hD0, hNw, hXl, hXu, hXn, hXt⟩ := hv
  have hx := B.exec
  have hb := B.bytes
  have hr := B.returns
  have hts := atoms_spec (ws := wsL_ahead) B.pre
  have hown : s.vm.findClass RL = some m.cls := findClass_of_methodNamed B.named
  have hlocks := B.notSynchronized
  subst hsz
  have hD := hD0.self (sz := s.heap.size)
  generalize hAe : va_A (wd00_21 a0 jaK jaR ja1 jb6 jbc jbV ja3 jbH jaT jh8 jaq jac jbI jbl jbn jba jaa jbA jbz jh8 jhy jiJ jkp jkP jaT jbb jbr jaR jb6 jbb cyI jbQ jhy cyI jjV jaR jcB jcC jbo jbp jbk jcF jbe jbq jef jbm jbi jdB jcF cyI jfQ a3 cyJ n3 f3) s.heap.size = A at hD hXu hXn ⊢
  have hA : ∀ q : Nat, s.heap.size ≤ q → A q := fun q h => by rw [← hAe]; exact Or.inr h
  have hS : va_S A s.heap s.heap [] := va_S.rf
  have hP : va_P (dC, dI) vwCl (wd00_21 a0 jaK jaR ja1 jb6 jbc jbV ja3 jbH jaT jh8 jaq jac jbI jbl jbn jba jaa jbA jbz jh8 jhy jiJ jkp jkP jaT jbb jbr jaR jb6 jbb cyI jbQ jhy cyI jjV jaR jcB jcC jbo jbp jbk jcF jbe jbq jef jbm jbi jdB jcF cyI jfQ a3 cyJ n3 f3) s.heap := hP
  have hl := lv_entry ([.ref a0, .int p1, .int p2, .ref a3]) (n := 5) (Nat.le_of_ble_eq_true rfl)
  rw [lg_entry_eq]
  generalize (lg_sl ([.ref a0, .int p1, .int p2, .ref a3]) ++ List.replicate (5 - (lg_sl ([.ref a0, .int p1, .int p2, .ref a3])).length) Slot.unset).toArray = ls at hl ⊢
  have hl : lv_has ls 5 [(0, .ref a0), (1, .int p1), (2, .int p2), (3, .ref a3)] := hl
  have hY : cfY l s A := ⟨hXl, hXu, hXn, hXt⟩
  have hTb := vx_table (x := yL_ahead) B (hts _ uw_L_ahead_cw)
  clear hAe
  obtain ⟨H, hH⟩ : ∃ H, H = s.heap := ⟨_, rfl⟩
  rw [← hH] at hP ⊢
  have hS : va_S A s.heap H [] := by rw [hH]; exact va_S.rf
  have hS := hS
  refine lv_aload_n hx hb (dt_of tkL_ahead_k0 0 rfl) rfl (lv_at hl 3 rfl) ?_
  refine lv_iconst (v := 0) hx hb (dt_of tkL_ahead_k0 1 rfl) (by decide) ?_
  refine lv_aload_n hx hb (dt_of tkL_ahead_k0 2 rfl) rfl (lv_at hl 0 rfl) ?_
  refine lv_iload_n hx hb (dt_of tkL_ahead_k0 3 rfl) rfl (lv_at hl 1 rfl) ?_
  refine lv_iload_n hx hb (dt_of tkL_ahead_k0 4 rfl) rfl (lv_at hl 2 rfl) ?_
  obtain ⟨hCc, hPc, hDc, hFc⟩ := va_pick (ws' := (wd00_22 a0 jaK jaR ja1 jb6 jbc jbV ja3 jbH jaT jh8 jaq jac jbI jbl jbn jba jaa jbA jbz jh8 jhy jiJ jkp jkP jaT jbb jbr jaR jb6 jbb cyI jbQ jhy cyI jjV jaR jcB jcC jbo jbp jbk jcF jbe jbq jef jbm jbi jdB jcF cyI jfQ)) hP hD hS hA [0, 1, 2, 3, 4, 5, 6] (by decide +kernel) rfl
  refine vx_calli (vx_runV (As := [.int p1, .int p2]) (rest := [.int 0, .ref a3]) ⟨hx, hb, hml, hown, hts⟩ (ck_X10_ahead l dC dI cyB cyI cyJ cyP a0 jh8 jaT jbb jhy jaR jb6 jcF H.size (jaK) (.ref jaR) (ja1) (.ref jb6) (jbc) (jbV) (ja3) (jbH) (jaq) (jac) (jbI) (jbl) (jbn) (jba) (jaa) (jbA) (jiJ) (jbr) (jcB) (jcC) (jbo) (jbp) (jbk) (jbe) (jbq) (jef) (jbi) jbQ jbm jdB jfQ jbz jjV jkp jkP p1 p2 hw) (cwV 2 hts gL_ahead_X10_ahead rfl rfl rfl (by decide +kernel) ⟨Nat.le_of_ble_eq_true rfl, Nat.le_of_ble_eq_true rfl⟩) ⟨cPx_blind, va_recv (q := (RX10, TX10, 19)) hK hPc (ci := 10) (q0 := 0) rfl rfl, cPx_pre hPc hK hDc hNw hY hS hFc⟩ rfl rfl hl.1 rfl (lv_room (Nat.le_of_ble_eq_true rfl)) (dt_of tkL_ahead_k0 5 rfl) ⟨Nat.le_of_ble_eq_true rfl, Nat.le_of_ble_eq_true rfl⟩) hS (fun q _ h => hFc q h) hFc (fun q _ h => hFc q h) (fun en ce qx9 u t H1 locs ht hvm hpx hB hz1 hk1 hS hc9 hv9 hcl9 => ?_) (fun r5 u t H1 locs ht hvm hw hB hz1 hk1 hS => ?_)
  · obtain ⟨x1, f2, q3, q4⟩ := u
    obtain ⟨hw, hP1, hK1, hD1⟩ := hB
    rw [ht] at hP1
    obtain ⟨hP, hD⟩ := va_joinN (wr := [(a3, .inl (cyJ, n3, .inr (.inl f3)))]) (w1 := (wd00_22 a0 jaK jaR ja1 jb6 jbc jbV ja3 jbH jaT jh8 jaq jac jbI jbl jbn jba jaa jbA x1 jh8 jhy jiJ q3 q4 jaT jbb jbr jaR jb6 jbb cyI jbQ jhy cyI f2 jaR jcB jcC jbo jbp jbk jcF jbe jbq jef jbm jbi jdB jcF cyI jfQ)) (wn := (wd00_21 a0 jaK jaR ja1 jb6 jbc jbV ja3 jbH jaT jh8 jaq jac jbI jbl jbn jba jaa jbA x1 jh8 jhy jiJ q3 q4 jaT jbb jbr jaR jb6 jbb cyI jbQ jhy cyI f2 jaR jcB jcC jbo jbp jbk jcF jbe jbq jef jbm jbi jdB jcF cyI jfQ a3 cyJ n3 f3)) hP hD [0, 1, 2, 3, 4, 5, 6] [7] [1, 2, 3, 4, 5, 6, 7, 0] hCc rfl (by decide +kernel) (by decide +kernel) (by decide +kernel) rfl hk1 hFc hP1 hD1
    generalize H1 = H at hP hS hc9 ⊢
    obtain ⟨rfl, hw⟩ := hw
    refine vx_catch (own := RL) (name := "java/lang/IllegalArgumentException") hown [] ⟨0, 10, 13, 13⟩ [] (hTb.trans rfl) (fun z hz => nomatch hz) (by decide) (by decide) (hts _ uw_L_ahead_ct13) (va_Nw.use rfl (hY.2.2.2.1.2 _ (List.mem_of_getElem? (i := 0) rfl))) hc9 hv9 hcl9 ?_
    refine lv_astore (lv' := [(4, .ref qx9), (0, .ref a0), (1, .int p1), (2, .int p2), (3, .ref a3)]) hx hb (dt_of tkL_ahead_k0 9 rfl) hl (by decide) rfl (fun ls hl => ?_)
    refine lv_iconst (v := 1) hx hb (dt_of tkL_ahead_k0 10 rfl) (by decide) ?_
    exact (W.widen (k := 2) (n := 12) (Nat.le_of_ble_eq_true rfl) (Nat.le_of_ble_eq_true rfl) (W.iret (v := 1) hx hb hr (fun t ht hW => ⟨⟨1, (x1, f2, q3, q4, f3), rfl, hw, by rw [ht]; exact hP, va_K.moved hW.alike hK, hD⟩, hS.F ht⟩) hS.2.2 (dt_of tkL_ahead_k0 11 rfl)))
  obtain ⟨x1, f2, q3, q4⟩ := u
  obtain ⟨hP1, hK1, hD1⟩ := hB
  rw [ht] at hP1
  obtain ⟨hP, hD⟩ := va_join (wr := [(a3, .inl (cyJ, n3, .inr (.inl f3)))]) (w1 := (wd00_22 a0 jaK jaR ja1 jb6 jbc jbV ja3 jbH jaT jh8 jaq jac jbI jbl jbn jba jaa jbA x1 jh8 jhy jiJ q3 q4 jaT jbb jbr jaR jb6 jbb cyI jbQ jhy cyI f2 jaR jcB jcC jbo jbp jbk jcF jbe jbq jef jbm jbi jdB jcF cyI jfQ)) hP hD [0, 1, 2, 3, 4, 5, 6] [7] rfl rfl (by decide) (by decide) hk1 hFc hP1 hD1
  have hP : va_P (dC, dI) vwCl (wd00_21 a0 jaK jaR ja1 jb6 jbc jbV ja3 jbH jaT jh8 jaq jac jbI jbl jbn jba jaa jbA x1 jh8 jhy jiJ q3 q4 jaT jbb jbr jaR jb6 jbb cyI jbQ jhy cyI f2 jaR jcB jcC jbo jbp jbk jcF jbe jbq jef jbm jbi jdB jcF cyI jfQ a3 cyJ n3 f3) H1 := hP.sub [1, 2, 3, 4, 5, 6, 7, 0] rfl
  have hD : va_D A (wd00_21 a0 jaK jaR ja1 jb6 jbc jbV ja3 jbH jaT jh8 jaq jac jbI jbl jbn jba jaa jbA x1 jh8 jhy jiJ q3 q4 jaT jbb jbr jaR jb6 jbb cyI jbQ jhy cyI f2 jaR jcB jcC jbo jbp jbk jcF jbe jbq jef jbm jbi jdB jcF cyI jfQ a3 cyJ n3 f3) := hD.sub [1, 2, 3, 4, 5, 6, 7, 0] (by decide) rfl
  generalize H1 = H at hP hS ⊢
  refine lv_i2l (v := r5.toInt64) hx hb (dt_of tkL_ahead_k0 6 rfl) rfl ?_
  refine lv_topl (fun x6 ex6 => ?_)
  have hw := hw x6 ex6
  obtain ⟨hi9, hw⟩ := hw
  refine va_last hx hb hK hP hD hS 7 2 rfl rfl hi9 (dt_of tkL_ahead_k0 7 rfl) (fun H locs hP hD hS => ?_)
  obtain ⟨f7, ef7⟩ : ∃ y : Nat → Int64, y = vp_updL f3 (0 : Int32).toNatClampNeg x6 := ⟨_, rfl⟩
  have hw := hw f7 ef7
  have hP : va_P (dC, dI) vwCl (wd00_21 a0 jaK jaR ja1 jb6 jbc jbV ja3 jbH jaT jh8 jaq jac jbI jbl jbn jba jaa jbA x1 jh8 jhy jiJ q3 q4 jaT jbb jbr jaR jb6 jbb cyI jbQ jhy cyI f2 jaR jcB jcC jbo jbp jbk jcF jbe jbq jef jbm jbi jdB jcF cyI jfQ a3 cyJ n3 f7) H := by rw [ef7]; exact hP
  have hD : va_D A (wd00_21 a0 jaK jaR ja1 jb6 jbc jbV ja3 jbH jaT jh8 jaq jac jbI jbl jbn jba jaa jbA x1 jh8 jhy jiJ q3 q4 jaT jbb jbr jaR jb6 jbb cyI jbQ jhy cyI f2 jaR jcB jcC jbo jbp jbk jcF jbe jbq jef jbm jbi jdB jcF cyI jfQ a3 cyJ n3 f7) := by rw [ef7]; exact hD
  refine lv_goto (tgt := 17) hx hb (dt_of tkL_ahead_k0 8 rfl) (by decide) ?_
  refine lv_iconst (v := 0) hx hb (dt_of tkL_ahead_k0 12 rfl) (by decide) ?_
  exact (W.widen (k := 2) (n := 12) (Nat.le_of_ble_eq_true rfl) (Nat.le_of_ble_eq_true rfl) (W.iret (v := 0) hx hb hr (fun t ht hW => ⟨⟨0, (x1, f2, q3, q4, f7), rfl, hw, by rw [ht]; exact hP, va_K.moved hW.alike hK, hD⟩, hS.F ht⟩) hS.2.2 (dt_of tkL_ahead_k0 13 rfl)))
theorem ui_X8_open_X8 : ∀ w ∈ u_ws RX8 TX8 7, w ∈ wsX8_open := uiM mbX8_open euX8 (by decide +kernel)
theorem uw_X8_open_f15 : (.fieldLink RX8 15 "MarchHares$Tape" "faultPlace" "I" : Cond) ∈ wsX8_open := mbX8_open 143 (by decide +kernel)
theorem uw_X8_open_f19 : (.fieldLink RX8 19 "MarchHares$Tape" "filled" "I" : Cond) ∈ wsX8_open := mbX8_open 580 (by decide +kernel)
theorem uw_X8_open_f28 : (.fieldLink RX8 28 "MarchHares$Tape" "length" "I" : Cond) ∈ wsX8_open := mbX8_open 712 (by decide +kernel)
theorem uw_X8_open_f31 : (.fieldLink RX8 31 "MarchHares$Tape" "at" "I" : Cond) ∈ wsX8_open := mbX8_open 713 (by decide +kernel)
theorem uw_X8_open_f34 : (.fieldLink RX8 34 "MarchHares$Tape" "token" "I" : Cond) ∈ wsX8_open := mbX8_open 714 (by decide +kernel)
theorem uw_X8_open_f37 : (.fieldLink RX8 37 "MarchHares$Tape" "fault" "I" : Cond) ∈ wsX8_open := mbX8_open 715 (by decide +kernel)
theorem uw_X8_open_inim : (.initialized "java/lang/Math" : Cond) ∈ wsX8_open := mbX8_open 651 (by decide +kernel)
theorem uw_X8_open_m22 : (.methodLink RX8 22 Lib.Math.min.name : Cond) ∈ wsX8_open := mbX8_open 711 (by decide +kernel)
theorem uw_X8_open_mcmin : (.code Lib.Math.min.name Lib.Math.min.code 2 (some .int) : Cond) ∈ wsX8_open := mbX8_open 652 (by decide +kernel)
theorem uw_X8_open_msmin : (.static Lib.Math.min.name : Cond) ∈ wsX8_open := mbX8_open 650 (by decide +kernel)
set_option maxHeartbeats 4000000 in
set_option maxRecDepth 100000 in
theorem ck_X8_open (l : Launch) (dC : Nat → ClassId) (dI : Nat → Nat → Nat) (cyB cyI cyJ cyP : ClassId) (a0 sz : Nat) (jn7 : Value)  (jb7 jcP jlr jnc jkC jj3 p1 : Int32) {Q : Int32 → Int32 → Int32 → Int32 → Int32 → Int32 → Prop} (hw : wq_X8_open  jb7 jcP jlr jnc jkC jj3 p1 Q) : Met l yX8_open wsX8_open ({ frames := 1, cells := 0, slots := 0, locals := 32 }) (va_Pc [.ref a0, .int p1] (cPc (dC, dI) (kT cyB cyI cyJ cyP) (wd00_23 a0 jn7 jb7 jcP jlr jnc jkC jj3) sz)) (va_Qv (fun (u : Int32 × Int32 × Int32 × Int32 × Int32 × Int32) => Q u.1 u.2.1 u.2.2.1 u.2.2.2.1 u.2.2.2.2.1 u.2.2.2.2.2) (cB (dC, dI) (kT cyB cyI cyJ cyP) (va_A (wd00_23 a0 jn7 jb7 jcP jlr jnc jkC jj3) sz) (fun u : Int32 × Int32 × Int32 × Int32 × Int32 × Int32 => ((wd00_23 a0 jn7 u.1 u.2.1 u.2.2.1 u.2.2.2.1 u.2.2.2.2.1 u.2.2.2.2.2) : va_W))) (va_A (wd00_23 a0 jn7 jb7 jcP jlr jnc jkC jj3) sz)) 0 0 (va_A (wd00_23 a0 jn7 jb7 jcP jlr jnc jkC jj3) sz) := by
  refine Met.ofW (cc := cX8_open) (maxL := 2) (ret := none) (by decide) rfl ?_
  intro p e s m args below meth c s₁ B hml hv
  obtain ⟨rfl, hsz, hP, hK, hD0, hNw⟩ := hv
  have hx := B.exec
  have hb := B.bytes
  have hr := B.returns
  have hts := atoms_spec (ws := wsX8_open) B.pre
  have hown : s.vm.findClass RX8 = some m.cls := findClass_of_methodNamed B.named
  have hlocks := B.notSynchronized
  subst hsz
  have hD := hD0.self (sz := s.heap.size)
  generalize hAe : va_A (wd00_23 a0 jn7 jb7 jcP jlr jnc jkC jj3) s.heap.size = A at hD ⊢
  have hA : ∀ q : Nat, s.heap.size ≤ q → A q := fun q h => by rw [← hAe]; exact Or.inr h
  have hS : va_S A s.heap s.heap [] := va_S.rf
  have hP : va_P (dC, dI) vwCl (wd00_23 a0 jn7 jb7 jcP jlr jnc jkC jj3) s.heap := hP
  have hl := lv_entry ([.ref a0, .int p1]) (n := 2) (Nat.le_of_ble_eq_true rfl)
  rw [lg_entry_eq]
  generalize (lg_sl ([.ref a0, .int p1]) ++ List.replicate (2 - (lg_sl ([.ref a0, .int p1])).length) Slot.unset).toArray = ls at hl ⊢
  have hl : lv_has ls 2 [(0, .ref a0), (1, .int p1)] := hl
  have C0 : cfx p s m _ meth c cX8_open none wsX8_open RX8 2 A (dC, dI) (kT cyB cyI cyJ cyP) := ⟨hx, hb, hr, hts, hown, hlocks, hml, hA, hK, hNw⟩
  clear hAe
  obtain ⟨H, hH⟩ : ∃ H, H = s.heap := ⟨_, rfl⟩
  rw [← hH] at hP ⊢
  have hS : va_S A s.heap H [] := by rw [hH]; exact va_S.rf
  have hS := hS
  refine lv_aload_n hx hb (dt_of tkX8_open_k0 0 rfl) rfl (lv_at hl 0 rfl) ?_
  refine lv_iload_n hx hb (dt_of tkX8_open_k0 1 rfl) rfl (lv_at hl 1 rfl) ?_
  refine lv_sipush (v := 600) hx hb (dt_of tkX8_open_k0 2 rfl) (by decide) ?_
  refine va_mmin hx hb (by rw [hml]; exact hl.1.symm) hown (hts _ uw_X8_open_m22) (hts _ uw_X8_open_msmin) (hts _ uw_X8_open_inim) (hts _ uw_X8_open_mcmin) (Nat.le_of_ble_eq_true rfl) (Nat.le_of_ble_eq_true rfl) (Nat.le_of_ble_eq_true rfl) (Nat.le_of_ble_eq_true rfl) (dt_of tkX8_open_k0 3 rfl) ?_
  refine lv_topi (fun x1 ex1 => ?_)
  have hw := hw x1 ex1
  refine va_put (D := (dC, dI)) (ci := 8) (v := .int x1) (ty := .int) (C := RX8) (T := TX8) (N := 7) hx hb hts ui_X8_open_X8 tyX8 tyX8_ok nmX8 hown hK hP hD hS 0 rfl rfl 1 (by decide) (hts _ uw_X8_open_f28) (fun _ h9 => h9) rfl (by decide +kernel) rfl rfl (Nat.le_of_ble_eq_true rfl) (dt_of tkX8_open_k0 4 rfl) (fun H locs hP hD hS => ?_)
  have hP : va_P (dC, dI) vwCl (wd00_23 a0 jn7 x1 jcP jlr jnc jkC jj3) H := hP
  have hD : va_D A (wd00_23 a0 jn7 x1 jcP jlr jnc jkC jj3) := hD
  refine lv_aload_n hx hb (dt_of tkX8_open_k0 5 rfl) rfl (lv_at hl 0 rfl) ?_
  refine lv_iconst (v := 0) hx hb (dt_of tkX8_open_k0 6 rfl) (by decide) ?_
  refine va_put (D := (dC, dI)) (ci := 8) (v := .int 0) (ty := .int) (C := RX8) (T := TX8) (N := 7) hx hb hts ui_X8_open_X8 tyX8 tyX8_ok nmX8 hown hK hP hD hS 0 rfl rfl 2 (by decide) (hts _ uw_X8_open_f31) (fun _ h9 => h9) rfl (by decide +kernel) rfl rfl (Nat.le_of_ble_eq_true rfl) (dt_of tkX8_open_k0 7 rfl) (fun H locs hP hD hS => ?_)
  have hP : va_P (dC, dI) vwCl (wd00_23 a0 jn7 x1 0 jlr jnc jkC jj3) H := hP
  have hD : va_D A (wd00_23 a0 jn7 x1 0 jlr jnc jkC jj3) := hD
  refine lv_aload_n hx hb (dt_of tkX8_open_k0 8 rfl) rfl (lv_at hl 0 rfl) ?_
  refine lv_iconst (v := 0) hx hb (dt_of tkX8_open_k0 9 rfl) (by decide) ?_
  refine va_put (D := (dC, dI)) (ci := 8) (v := .int 0) (ty := .int) (C := RX8) (T := TX8) (N := 7) hx hb hts ui_X8_open_X8 tyX8 tyX8_ok nmX8 hown hK hP hD hS 0 rfl rfl 3 (by decide) (hts _ uw_X8_open_f34) (fun _ h9 => h9) rfl (by decide +kernel) rfl rfl (Nat.le_of_ble_eq_true rfl) (dt_of tkX8_open_k0 10 rfl) (fun H locs hP hD hS => ?_)
  have hP : va_P (dC, dI) vwCl (wd00_23 a0 jn7 x1 0 0 jnc jkC jj3) H := hP
  have hD : va_D A (wd00_23 a0 jn7 x1 0 0 jnc jkC jj3) := hD
  refine lv_aload_n hx hb (dt_of tkX8_open_k0 11 rfl) rfl (lv_at hl 0 rfl) ?_
  refine lv_iconst (v := 0) hx hb (dt_of tkX8_open_k0 12 rfl) (by decide) ?_
  refine va_put (D := (dC, dI)) (ci := 8) (v := .int 0) (ty := .int) (C := RX8) (T := TX8) (N := 7) hx hb hts ui_X8_open_X8 tyX8 tyX8_ok nmX8 hown hK hP hD hS 0 rfl rfl 4 (by decide) (hts _ uw_X8_open_f19) (fun _ h9 => h9) rfl (by decide +kernel) rfl rfl (Nat.le_of_ble_eq_true rfl) (dt_of tkX8_open_k0 13 rfl) (fun H locs hP hD hS => ?_)
  have hP : va_P (dC, dI) vwCl (wd00_23 a0 jn7 x1 0 0 0 jkC jj3) H := hP
  have hD : va_D A (wd00_23 a0 jn7 x1 0 0 0 jkC jj3) := hD
  refine lv_aload_n hx hb (dt_of tkX8_open_k0 14 rfl) rfl (lv_at hl 0 rfl) ?_
  refine lv_iconst (v := 0) hx hb (dt_of tkX8_open_k0 15 rfl) (by decide) ?_
  refine va_put (D := (dC, dI)) (ci := 8) (v := .int 0) (ty := .int) (C := RX8) (T := TX8) (N := 7) hx hb hts ui_X8_open_X8 tyX8 tyX8_ok nmX8 hown hK hP hD hS 0 rfl rfl 5 (by decide) (hts _ uw_X8_open_f37) (fun _ h9 => h9) rfl (by decide +kernel) rfl rfl (Nat.le_of_ble_eq_true rfl) (dt_of tkX8_open_k28 0 rfl) (fun H locs hP hD hS => ?_)
  have hP : va_P (dC, dI) vwCl (wd00_23 a0 jn7 x1 0 0 0 0 jj3) H := hP
  have hD : va_D A (wd00_23 a0 jn7 x1 0 0 0 0 jj3) := hD
  refine lv_aload_n hx hb (dt_of tkX8_open_k28 1 rfl) rfl (lv_at hl 0 rfl) ?_
  refine lv_iconst (v := (-1)) hx hb (dt_of tkX8_open_k28 2 rfl) (by decide) ?_
  refine va_put (D := (dC, dI)) (ci := 8) (v := .int (-1)) (ty := .int) (C := RX8) (T := TX8) (N := 7) hx hb hts ui_X8_open_X8 tyX8 tyX8_ok nmX8 hown hK hP hD hS 0 rfl rfl 6 (by decide) (hts _ uw_X8_open_f15) (fun _ h9 => h9) rfl (by decide +kernel) rfl rfl (Nat.le_of_ble_eq_true rfl) (dt_of tkX8_open_k28 3 rfl) (fun H locs hP hD hS => ?_)
  have hP : va_P (dC, dI) vwCl (wd00_23 a0 jn7 x1 0 0 0 0 (-1)) H := hP
  have hD : va_D A (wd00_23 a0 jn7 x1 0 0 0 0 (-1)) := hD
  exact ((W.vret hx hb hr (fun t ht hW => ⟨⟨(x1, 0, 0, 0, 0, (-1)), rfl, hw, by rw [ht]; exact hP, va_K.moved hW.alike hK, hD⟩, hS.F ht⟩) hS.2.2 (dt_of tkX8_open_k28 4 rfl)))
theorem ui_X10_openText_X10 : ∀ w ∈ u_ws RX10 TX10 19, w ∈ wsX10_openText := uiM mbX10_openText euX10 (by decide +kernel)
theorem ui_X10_openText_X8 : ∀ w ∈ u_ws RX8 TX8 7, w ∈ wsX10_openText := uiM mbX10_openText euX8 (by decide +kernel)
theorem uw_X10_openText_f10 : (.fieldLink RX10 10 "MarchHares" "tape" "LMarchHares$Tape;" : Cond) ∈ wsX10_openText := mbX10_openText 16 (by decide +kernel)
theorem uw_X10_openText_f105 : (.fieldLink RX10 105 "MarchHares$Tape" "filled" "I" : Cond) ∈ wsX10_openText := mbX10_openText 535 (by decide +kernel)
theorem uw_X10_openText_inim : (.initialized "java/lang/Math" : Cond) ∈ wsX10_openText := mbX10_openText 651 (by decide +kernel)
theorem uw_X10_openText_m384 : (.methodLink RX10 384 Lib.Math.min.name : Cond) ∈ wsX10_openText := mbX10_openText 649 (by decide +kernel)
theorem uw_X10_openText_mcmin : (.code Lib.Math.min.name Lib.Math.min.code 2 (some .int) : Cond) ∈ wsX10_openText := mbX10_openText 652 (by decide +kernel)
theorem uw_X10_openText_msmin : (.static Lib.Math.min.name : Cond) ∈ wsX10_openText := mbX10_openText 650 (by decide +kernel)
set_option maxHeartbeats 4000000 in
set_option maxRecDepth 100000 in
theorem ck_X10_openText (l : Launch) (dC : Nat → ClassId) (dI : Nat → Nat → Nat) (cyB cyI cyJ cyP : ClassId) (a0 jaW sz : Nat) (jfP ja1 jcp jbc jbV ja3 jbH ja2 jbO jaq jac jbI jbl jbn jba jaa jbA jok : Value)  (jbz jk4 jlW jll jj0 jlm jjE p1 p2 : Int32) {E : String → Int32 → Int32 → Int32 → Int32 → Int32 → Int32 → Int32 → Prop} {Q : Int32 → Int32 → Int32 → Int32 → Int32 → Int32 → Int32 → Prop} (hw : wq_X10_openText  jbz jk4 jlW jll jj0 jlm jjE p1 p2 E Q) : vx_Met l yX10_openText wsX10_openText ({ frames := 8, cells := 1, slots := 6, locals := 164 }) (va_Pc [.ref a0, .int p1, .int p2] (cPx l (dC, dI) (kT cyB cyI cyJ cyP) (wd00_24 a0 jaW jfP ja1 jcp jbc jbV ja3 jbH ja2 jbO jaq jac jbI jbl jbn jba jaa jbA jbz jaW jok jk4 jlW jll jj0 jlm jjE) sz)) (va_Qv (fun (u : Int32 × Int32 × Int32 × Int32 × Int32 × Int32 × Int32) => Q u.1 u.2.1 u.2.2.1 u.2.2.2.1 u.2.2.2.2.1 u.2.2.2.2.2.1 u.2.2.2.2.2.2) (cB (dC, dI) (kT cyB cyI cyJ cyP) (va_A (wd00_24 a0 jaW jfP ja1 jcp jbc jbV ja3 jbH ja2 jbO jaq jac jbI jbl jbn jba jaa jbA jbz jaW jok jk4 jlW jll jj0 jlm jjE) sz) (fun u : Int32 × Int32 × Int32 × Int32 × Int32 × Int32 × Int32 => ((wd00_24 a0 jaW jfP ja1 jcp jbc jbV ja3 jbH ja2 jbO jaq jac jbI jbl jbn jba jaa jbA u.1 jaW jok u.2.1 u.2.2.1 u.2.2.2.1 u.2.2.2.2.1 u.2.2.2.2.2.1 u.2.2.2.2.2.2) : va_W))) (va_A (wd00_24 a0 jaW jfP ja1 jcp jbc jbV ja3 jbH ja2 jbO jaq jac jbI jbl jbn jba jaa jbA jbz jaW jok jk4 jlW jll jj0 jlm jjE) sz)) (vx_X (fun _ => True) (fun (en : String) (u : Int32 × Int32 × Int32 × Int32 × Int32 × Int32 × Int32) (t : State) => E en u.1 u.2.1 u.2.2.1 u.2.2.2.1 u.2.2.2.2.1 u.2.2.2.2.2.1 u.2.2.2.2.2.2 ∧ cB (dC, dI) (kT cyB cyI cyJ cyP) (va_A (wd00_24 a0 jaW jfP ja1 jcp jbc jbV ja3 jbH ja2 jbO jaq jac jbI jbl jbn jba jaa jbA jbz jaW jok jk4 jlW jll jj0 jlm jjE) sz) (fun u : Int32 × Int32 × Int32 × Int32 × Int32 × Int32 × Int32 => ((wd00_24 a0 jaW jfP ja1 jcp jbc jbV ja3 jbH ja2 jbO jaq jac jbI jbl jbn jba jaa jbA u.1 jaW jok u.2.1 u.2.2.1 u.2.2.2.1 u.2.2.2.2.1 u.2.2.2.2.2.1 u.2.2.2.2.2.2) : va_W)) u t) (va_A (wd00_24 a0 jaW jfP ja1 jcp jbc jbV ja3 jbH ja2 jbO jaq jac jbI jbl jbn jba jaa jbA jbz jaW jok jk4 jlW jll jj0 jlm jjE) sz)) 1 6 (va_A (wd00_24 a0 jaW jfP ja1 jcp jbc jbV ja3 jbH ja2 jbO jaq jac jbI jbl jbn jba jaa jbA jbz jaW jok jk4 jlW jll jj0 jlm jjE) sz) := by
  refine vx_ofW (cc := cX10_openText) (maxL := 3) (ret := none) (by decide) rfl ?_
  intro p e s m args below meth c s₁ B hml hnt hv
  obtain ⟨rfl, hsz, hP, hK, hD0, hNw, hXl, hXu, hXn, hXt⟩ := hv
  have hx := B.exec
  have hb := B.bytes
  have hr := B.returns
  have hts := atoms_spec (ws := wsX10_openText) B.pre
  have hown : s.vm.findClass RX10 = some m.cls := findClass_of_methodNamed B.named
  have hlocks := B.notSynchronized
  subst hsz
  have hD := hD0.self (sz := s.heap.size)
  generalize hAe : va_A (wd00_24 a0 jaW jfP ja1 jcp jbc jbV ja3 jbH ja2 jbO jaq jac jbI jbl jbn jba jaa jbA jbz jaW jok jk4 jlW jll jj0 jlm jjE) s.heap.size = A at hD hXu hXn ⊢
  have hA : ∀ q : Nat, s.heap.size ≤ q → A q := fun q h => by rw [← hAe]; exact Or.inr h
  have hS : va_S A s.heap s.heap [] := va_S.rf
  have hP : va_P (dC, dI) vwCl (wd00_24 a0 jaW jfP ja1 jcp jbc jbV ja3 jbH ja2 jbO jaq jac jbI jbl jbn jba jaa jbA jbz jaW jok jk4 jlW jll jj0 jlm jjE) s.heap := hP
  have hl := lv_entry ([.ref a0, .int p1, .int p2]) (n := 3) (Nat.le_of_ble_eq_true rfl)
  rw [lg_entry_eq]
  generalize (lg_sl ([.ref a0, .int p1, .int p2]) ++ List.replicate (3 - (lg_sl ([.ref a0, .int p1, .int p2])).length) Slot.unset).toArray = ls at hl ⊢
  have hl : lv_has ls 3 [(0, .ref a0), (1, .int p1), (2, .int p2)] := hl
  have hY : cfY l s A := ⟨hXl, hXu, hXn, hXt⟩
  have hXs : cfX l s c A := ⟨hnt, hY⟩
  have C0 : cfx p s m _ meth c cX10_openText none wsX10_openText RX10 3 A (dC, dI) (kT cyB cyI cyJ cyP) ∧ cfX l s c A := ⟨⟨hx, hb, hr, hts, hown, hlocks, hml, hA, hK, hNw⟩, hXs⟩
  clear hAe
  obtain ⟨H, hH⟩ : ∃ H, H = s.heap := ⟨_, rfl⟩
  rw [← hH] at hP ⊢
  have hS : va_S A s.heap H [] := by rw [hH]; exact va_S.rf
  have hS := hS
  refine lv_aload_n hx hb (dt_of tkX10_openText_k0 0 rfl) rfl (lv_at hl 0 rfl) ?_
  refine lv_iload_n hx hb (dt_of tkX10_openText_k0 1 rfl) rfl (lv_at hl 1 rfl) ?_
  refine lv_iconst (v := 0) hx hb (dt_of tkX10_openText_k0 2 rfl) (by decide) ?_
  refine lv_iload_n hx hb (dt_of tkX10_openText_k0 3 rfl) rfl (lv_at hl 2 rfl) ?_
  refine lv_aload_n hx hb (dt_of tkX10_openText_k0 4 rfl) rfl (lv_at hl 0 rfl) ?_
  refine va_get (D := (dC, dI)) (ci := 10) (v := .ref jaW) (C := RX10) (T := TX10) (N := 19) hx hb hts ui_X10_openText_X10 hown hK hP 0 rfl rfl 0 (by decide) (hts _ uw_X10_openText_f10) (fun _ h9 => h9) rfl (dt_of tkX10_openText_k0 5 rfl) ?_
  refine va_get (D := (dC, dI)) (ci := 8) (v := .int jj0) (C := RX8) (T := TX8) (N := 7) hx hb hts ui_X10_openText_X8 hown hK hP 1 rfl rfl 4 (by decide) (hts _ uw_X10_openText_f105) (fun _ h9 => h9) rfl (dt_of tkX10_openText_k0 6 rfl) ?_
  refine va_mmin hx hb (by rw [hml]; exact hl.1.symm) hown (hts _ uw_X10_openText_m384) (hts _ uw_X10_openText_msmin) (hts _ uw_X10_openText_inim) (hts _ uw_X10_openText_mcmin) (Nat.le_of_ble_eq_true rfl) (Nat.le_of_ble_eq_true rfl) (Nat.le_of_ble_eq_true rfl) (Nat.le_of_ble_eq_true rfl) (dt_of tkX10_openText_k0 7 rfl) ?_
  refine lv_topi (fun x1 ex1 => ?_)
  have hw := hw x1 ex1
  obtain ⟨hCc, hPc, hDc, hFc⟩ := va_pick (ws' := (wd00_25 a0 jaW jfP ja1 jcp jbc jbV ja3 jbH ja2 jbO jaq jac jbI jbl jbn jba jaa jbA jbz)) hP hD hS hA [0] (by decide +kernel) rfl
  refine vx_callv (vx_runV (As := [.int p1, .int 0, .int x1]) (rest := []) ⟨hx, hb, hml, hown, hts⟩ (ck_X10_needWithin l dC dI cyB cyI cyJ cyP a0 H.size (.ref jaW) (jfP) (ja1) (jcp) (jbc) (jbV) (ja3) (jbH) (ja2) (jbO) (jaq) (jac) (jbI) (jbl) (jbn) (jba) (jaa) (jbA)  jbz p1 0 x1 hw) (cwV 3 hts gX10_openText_X10_needWithin rfl rfl rfl (by decide +kernel) ⟨Nat.le_of_ble_eq_true rfl, Nat.le_of_ble_eq_true rfl⟩) ⟨cPx_blind, va_recv (q := (RX10, TX10, 19)) hK hPc (ci := 10) (q0 := 0) rfl rfl, cPx_pre hPc hK hDc hNw hY hS hFc⟩ rfl rfl hl.1 rfl (lv_room (Nat.le_of_ble_eq_true rfl)) (dt_of tkX10_openText_k0 8 rfl) ⟨Nat.le_of_ble_eq_true rfl, Nat.le_of_ble_eq_true rfl⟩) hS (fun q _ h => hFc q h) hFc (fun q _ h => hFc q h) (fun en ce q9 u t H1 locs ht hvm hpx hB hz1 hk1 hS hc9 hv9 hcl9 => ?_) (fun u t H1 locs ht hvm hw hB hz1 hk1 hS => ?_)
  · obtain ⟨x2, rfl⟩ : ∃ z, z = u := ⟨_, rfl⟩
    obtain ⟨hw, hP1, hK1, hD1⟩ := hB
    rw [ht] at hP1
    obtain ⟨hP, hD⟩ := va_joinN (wr := (wd00_23 jaW jok jk4 jlW jll jj0 jlm jjE)) (w1 := (wd00_25 a0 jaW jfP ja1 jcp jbc jbV ja3 jbH ja2 jbO jaq jac jbI jbl jbn jba jaa jbA x2)) (wn := (wd00_24 a0 jaW jfP ja1 jcp jbc jbV ja3 jbH ja2 jbO jaq jac jbI jbl jbn jba jaa jbA x2 jaW jok jk4 jlW jll jj0 jlm jjE)) hP hD [0] [1] [1, 0] hCc rfl (by decide +kernel) (by decide +kernel) (by decide +kernel) rfl hk1 hFc hP1 hD1
    generalize H1 = H at hP hS hc9 ⊢
    exact vx_out (fun x hx9 => (hXs.1 x hx9).elim) hlocks hc9 hv9 hcl9 (fun t2 ht2 hal2 => ⟨(x2, jk4, jlW, jll, jj0, jlm, jjE), trivial, ⟨hw, by rw [ht2]; exact hP, va_K.moved hal2 hK, hD⟩, hS.F ht2⟩) hS.2.2 (Nat.le_of_ble_eq_true rfl) (Nat.le_of_ble_eq_true rfl)
  obtain ⟨x2, rfl⟩ : ∃ z, z = u := ⟨_, rfl⟩
  obtain ⟨hP1, hK1, hD1⟩ := hB
  rw [ht] at hP1
  obtain ⟨hP, hD⟩ := va_joinN (wr := (wd00_23 jaW jok jk4 jlW jll jj0 jlm jjE)) (w1 := (wd00_25 a0 jaW jfP ja1 jcp jbc jbV ja3 jbH ja2 jbO jaq jac jbI jbl jbn jba jaa jbA x2)) (wn := (wd00_24 a0 jaW jfP ja1 jcp jbc jbV ja3 jbH ja2 jbO jaq jac jbI jbl jbn jba jaa jbA x2 jaW jok jk4 jlW jll jj0 jlm jjE)) hP hD [0] [1] [1, 0] hCc rfl (by decide +kernel) (by decide +kernel) (by decide +kernel) rfl hk1 hFc hP1 hD1
  generalize H1 = H at hP hS ⊢
  refine lv_aload_n hx hb (dt_of tkX10_openText_k0 9 rfl) rfl (lv_at hl 0 rfl) ?_
  refine va_get (D := (dC, dI)) (ci := 10) (v := .ref jaW) (C := RX10) (T := TX10) (N := 19) hx hb hts ui_X10_openText_X10 hown hK hP 0 rfl rfl 0 (by decide) (hts _ uw_X10_openText_f10) (fun _ h9 => h9) rfl (dt_of tkX10_openText_k0 10 rfl) ?_
  refine lv_iload_n hx hb (dt_of tkX10_openText_k0 11 rfl) rfl (lv_at hl 1 rfl) ?_
  obtain ⟨hCc, hPc, hDc, hFc⟩ := va_pick (ws' := (wd00_23 jaW jok jk4 jlW jll jj0 jlm jjE)) hP hD hS hA [1] (by decide +kernel) rfl
  refine va_callv (va_runV (As := [.int p1]) (rest := []) ⟨hx, hb, hml, hown, hts⟩ (ck_X8_open l dC dI cyB cyI cyJ cyP jaW H.size (jok)  jk4 jlW jll jj0 jlm jjE p1 hw) (cwV 1 hts gX10_openText_X8_open rfl rfl rfl (by decide +kernel) ⟨Nat.le_of_ble_eq_true rfl, Nat.le_of_ble_eq_true rfl⟩) ⟨cPc_blind, va_recv (q := (RX8, TX8, 7)) hK hPc (ci := 8) (q0 := 0) rfl rfl, cPc_pre hPc hK hDc hNw⟩ rfl rfl hl.1 rfl (lv_room (Nat.le_of_ble_eq_true rfl)) (dt_of tkX10_openText_k0 12 rfl) ⟨Nat.le_of_ble_eq_true rfl, Nat.le_of_ble_eq_true rfl⟩) hS (fun q _ h => hFc q h) hFc (fun u t H1 locs ht hvm hw hB hz1 hk1 hS => ?_)
  obtain ⟨x3, x4, x5, x6, x7, x8⟩ := u
  obtain ⟨hP1, hK1, hD1⟩ := hB
  rw [ht] at hP1
  obtain ⟨hP, hD⟩ := va_joinI (wr := (wd00_25 a0 jaW jfP ja1 jcp jbc jbV ja3 jbH ja2 jbO jaq jac jbI jbl jbn jba jaa jbA x2)) (w1 := (wd00_23 jaW jok x3 x4 x5 x6 x7 x8)) (wn := (wd00_24 a0 jaW jfP ja1 jcp jbc jbV ja3 jbH ja2 jbO jaq jac jbI jbl jbn jba jaa jbA x2 jaW jok x3 x4 x5 x6 x7 x8)) hP hD [1] [0] hCc rfl (by decide +kernel) (by decide +kernel) rfl hk1 hFc hP1 hD1
  generalize H1 = H at hP hS ⊢
  exact vx_ret (W.widen (k := 1) (n := 6) (Nat.le_of_ble_eq_true rfl) (Nat.le_of_ble_eq_true rfl) (W.vret hx hb hr (fun t ht hW => ⟨⟨(x2, x3, x4, x5, x6, x7, x8), rfl, hw, by rw [ht]; exact hP, va_K.moved hW.alike hK, hD⟩, hS.F ht⟩) hS.2.2 (dt_of tkX10_openText_k0 13 rfl)))
theorem ui_X0_clear_X0 : ∀ w ∈ u_ws RX0 TX0 2, w ∈ wsX0_clear := uiM mbX0_clear euX0 (by decide +kernel)
theorem uw_X0_clear_f18 : (.fieldLink RX0 18 "MarchHares$Book" "many" "I" : Cond) ∈ wsX0_clear := mbX0_clear 262 (by decide +kernel)
theorem uw_X0_clear_f9 : (.fieldLink RX0 9 "MarchHares$Book" "seen" "[I" : Cond) ∈ wsX0_clear := mbX0_clear 257 (by decide +kernel)
set_option maxHeartbeats 4000000 in
set_option maxRecDepth 100000 in
theorem kl_X0_clear_7 {p : Program} {l : Launch} {e : Env} {s : State} {m : MethodId} {args : Array Value} {below : List Frame} {meth : Method} {c : Code} {A : Nat → Prop} (dC : Nat → ClassId) (dI : Nat → Nat → Nat) (cyB cyI cyJ cyP : ClassId) (a0 jjj : Nat)   (Q : Int32 → (Nat → Int32) → Prop)  (C0 : cfx p s m args meth c cX0_clear none wsX0_clear RX0 2 A (dC, dI) (kT cyB cyI cyJ cyP)) : ∀ (n : Nat) (H : Heap) (locs : List Loc) (ls : Array Slot) (jkY : Int32) (jkG : Nat → Int32) (l1 : Int32), va_P (dC, dI) vwCl (wd00_26 a0 jjj jkY jjj cyI jkG) H → va_D A (wd00_26 a0 jjj jkY jjj cyI jkG) → va_S A s.heap H locs → lv_has ls 2 [(0, .ref a0), (1, .int l1)] → wl_X0_clear_7  Q  n jkY jkG l1 → W p l e (headSpec wsX0_clear ({ frames := 0, cells := 0, slots := 0, locals := 0 })).room s m args below meth c H locs 0 0 (MQ below (va_Qv (fun (u : Int32 × (Nat → Int32)) => Q u.1 u.2) (cB (dC, dI) (kT cyB cyI cyJ cyP) A (fun u : Int32 × (Nat → Int32) => ((wd00_26 a0 jjj u.1 jjj cyI u.2) : va_W))) A) args s 0 0 A) (F0 m 7 ls []) := by
  obtain ⟨hx, hb, hr, hts, hown, hlocks, hml, hA, hK, hNw⟩ := id C0
  intro n
  induction n with
  | zero => intro H locs ls jkY jkG l1 hP hD hS hl hw; exact False.elim hw
  | succ n ih =>
    intro H locs ls jkY jkG l1 hP hD hS hl hw
    refine lv_iload_n hx hb (dt_of tkX0_clear_k0 5 rfl) rfl (lv_at hl 1 rfl) ?_
    refine lv_bipush (v := 8) hx hb (dt_of tkX0_clear_k0 6 rfl) (by decide) ?_
    refine lv_icmp_ge (tgt := 26) hx hb (dt_of tkX0_clear_k0 7 rfl) (by decide) (fun c1 => ?_) (fun c1 => ?_)
    · have hw := hw.1 c1
      exact ((W.vret hx hb hr (fun t ht hW => ⟨⟨(jkY, jkG), rfl, hw, by rw [ht]; exact hP, va_K.moved hW.alike hK, hD⟩, hS.F ht⟩) hS.2.2 (dt_of tkX0_clear_k0 15 rfl)))
    · have hw := hw.2 c1
      refine lv_aload_n hx hb (dt_of tkX0_clear_k0 8 rfl) rfl (lv_at hl 0 rfl) ?_
      refine va_get (D := (dC, dI)) (ci := 0) (v := .ref jjj) (C := RX0) (T := TX0) (N := 2) hx hb hts ui_X0_clear_X0 hown hK hP 0 rfl rfl 0 (by decide) (hts _ uw_X0_clear_f9) (fun _ h9 => h9) rfl (dt_of tkX0_clear_k0 9 rfl) ?_
      refine lv_iload_n hx hb (dt_of tkX0_clear_k0 10 rfl) rfl (lv_at hl 1 rfl) ?_
      refine lv_iconst (v := (-1)) hx hb (dt_of tkX0_clear_k0 11 rfl) (by decide) ?_
      obtain ⟨hi9, hw⟩ := hw
      refine va_iast hx hb hK hP hD hS 1 1 rfl rfl hi9 (dt_of tkX0_clear_k0 12 rfl) (fun H locs hP hD hS => ?_)
      obtain ⟨f2, ef2⟩ : ∃ y : Nat → Int32, y = upd jkG l1.toNatClampNeg (-1) := ⟨_, rfl⟩
      have hw := hw f2 ef2
      have hP : va_P (dC, dI) vwCl (wd00_26 a0 jjj jkY jjj cyI f2) H := by rw [ef2]; exact hP
      have hD : va_D A (wd00_26 a0 jjj jkY jjj cyI f2) := by rw [ef2]; exact hD
      obtain ⟨x3, ex3⟩ : ∃ y : Int32, y = l1 + 1 := ⟨_, rfl⟩
      have hw := hw x3 ex3
      refine lv_iinc (v := x3) (lv' := [(1, .int x3), (0, .ref a0)]) hx hb (dt_of tkX0_clear_k0 13 rfl) hl (k := 1) rfl (by rw [ex3]; rfl) (by decide) rfl (fun ls hl => ?_)
      refine lv_goto (tgt := 7) hx hb (dt_of tkX0_clear_k0 14 rfl) (by decide) ?_
      exact ih _ _ _ jkY f2 x3 hP hD hS (lv_sub hl [1, 0] rfl) hw
set_option maxHeartbeats 4000000 in
set_option maxRecDepth 100000 in
theorem ck_X0_clear (l : Launch) (dC : Nat → ClassId) (dI : Nat → Nat → Nat) (cyB cyI cyJ cyP : ClassId) (a0 jjj sz : Nat)   (jkY : Int32) (jkG : Nat → Int32)  {Q : Int32 → (Nat → Int32) → Prop} (hw : wq_X0_clear  jkY jkG  Q) : Met l yX0_clear wsX0_clear ({ frames := 0, cells := 0, slots := 0, locals := 0 }) (va_Pc [.ref a0] (cPc (dC, dI) (kT cyB cyI cyJ cyP) (wd00_26 a0 jjj jkY jjj cyI jkG) sz)) (va_Qv (fun (u : Int32 × (Nat → Int32)) => Q u.1 u.2) (cB (dC, dI) (kT cyB cyI cyJ cyP) (va_A (wd00_26 a0 jjj jkY jjj cyI jkG) sz) (fun u : Int32 × (Nat → Int32) => ((wd00_26 a0 jjj u.1 jjj cyI u.2) : va_W))) (va_A (wd00_26 a0 jjj jkY jjj cyI jkG) sz)) 0 0 (va_A (wd00_26 a0 jjj jkY jjj cyI jkG) sz) := by
  refine Met.ofW (cc := cX0_clear) (maxL := 2) (ret := none) (by decide) rfl ?_
  intro p e s m args below meth c s₁ B hml hv
  obtain ⟨rfl, hsz, hP, hK, hD0, hNw⟩ := hv
  have hx := B.exec
  have hb := B.bytes
  have hr := B.returns
  have hts := atoms_spec (ws := wsX0_clear) B.pre
  have hown : s.vm.findClass RX0 = some m.cls := findClass_of_methodNamed B.named
  have hlocks := B.notSynchronized
  subst hsz
  have hD := hD0.self (sz := s.heap.size)
  generalize hAe : va_A (wd00_26 a0 jjj jkY jjj cyI jkG) s.heap.size = A at hD ⊢
  have hA : ∀ q : Nat, s.heap.size ≤ q → A q := fun q h => by rw [← hAe]; exact Or.inr h
  have hS : va_S A s.heap s.heap [] := va_S.rf
  have hP : va_P (dC, dI) vwCl (wd00_26 a0 jjj jkY jjj cyI jkG) s.heap := hP
  have hl := lv_entry ([.ref a0]) (n := 2) (Nat.le_of_ble_eq_true rfl)
  rw [lg_entry_eq]
  generalize (lg_sl ([.ref a0]) ++ List.replicate (2 - (lg_sl ([.ref a0])).length) Slot.unset).toArray = ls at hl ⊢
  have hl : lv_has ls 2 [(0, .ref a0)] := hl
  have C0 : cfx p s m _ meth c cX0_clear none wsX0_clear RX0 2 A (dC, dI) (kT cyB cyI cyJ cyP) := ⟨hx, hb, hr, hts, hown, hlocks, hml, hA, hK, hNw⟩
  clear hAe
  obtain ⟨H, hH⟩ : ∃ H, H = s.heap := ⟨_, rfl⟩
  rw [← hH] at hP ⊢
  have hS : va_S A s.heap H [] := by rw [hH]; exact va_S.rf
  have hS := hS
  refine lv_aload_n hx hb (dt_of tkX0_clear_k0 0 rfl) rfl (lv_at hl 0 rfl) ?_
  refine lv_iconst (v := 0) hx hb (dt_of tkX0_clear_k0 1 rfl) (by decide) ?_
  refine va_put (D := (dC, dI)) (ci := 0) (v := .int 0) (ty := .int) (C := RX0) (T := TX0) (N := 2) hx hb hts ui_X0_clear_X0 tyX0 tyX0_ok nmX0 hown hK hP hD hS 0 rfl rfl 1 (by decide) (hts _ uw_X0_clear_f18) (fun _ h9 => h9) rfl (by decide +kernel) rfl rfl (Nat.le_of_ble_eq_true rfl) (dt_of tkX0_clear_k0 2 rfl) (fun H locs hP hD hS => ?_)
  have hP : va_P (dC, dI) vwCl (wd00_26 a0 jjj 0 jjj cyI jkG) H := hP
  have hD : va_D A (wd00_26 a0 jjj 0 jjj cyI jkG) := hD
  refine lv_iconst (v := 0) hx hb (dt_of tkX0_clear_k0 3 rfl) (by decide) ?_
  refine lv_istore_n (lv' := [(1, .int 0), (0, .ref a0)]) hx hb (dt_of tkX0_clear_k0 4 rfl) rfl hl (by decide) rfl (fun ls hl => ?_)
  obtain ⟨n9, hw⟩ := hw
  exact kl_X0_clear_7 dC dI cyB cyI cyJ cyP a0 jjj   Q  C0 n9 _ _ _ 0 jkG 0 hP hD hS (lv_sub hl [1, 0] rfl) hw
theorem ui_X8_isFaulty_X8 : ∀ w ∈ u_ws RX8 TX8 7, w ∈ wsX8_isFaulty := uiM mbX8_isFaulty euX8 (by decide +kernel)
theorem uw_X8_isFaulty_f37 : (.fieldLink RX8 37 "MarchHares$Tape" "fault" "I" : Cond) ∈ wsX8_isFaulty := mbX8_isFaulty 715 (by decide +kernel)
set_option maxHeartbeats 4000000 in
set_option maxRecDepth 100000 in
theorem ck_X8_isFaulty (l : Launch) (dC : Nat → ClassId) (dI : Nat → Nat → Nat) (cyB cyI cyJ cyP : ClassId) (a0 sz : Nat) (jn7 jjf jby jl9 jjY jkr : Value) (jkC : Int32)   {Q : Int32 → Prop} (hw : wq_X8_isFaulty jkC   Q) : Met l yX8_isFaulty wsX8_isFaulty ({ frames := 0, cells := 0, slots := 0, locals := 0 }) (va_Pc [.ref a0] (cPc (dC, dI) (kT cyB cyI cyJ cyP) (wd00_27 a0 jn7 jjf jby jl9 jjY jkC jkr) sz)) (va_Qi (fun (r : Int32) (_ : Unit) => Q r ) (cB (dC, dI) (kT cyB cyI cyJ cyP) (va_A (wd00_27 a0 jn7 jjf jby jl9 jjY jkC jkr) sz) (fun u : Unit => ((wd00_27 a0 jn7 jjf jby jl9 jjY jkC jkr) : va_W))) (va_A (wd00_27 a0 jn7 jjf jby jl9 jjY jkC jkr) sz)) 0 0 (va_A (wd00_27 a0 jn7 jjf jby jl9 jjY jkC jkr) sz) := by
  refine Met.ofW (cc := cX8_isFaulty) (maxL := 1) (ret := (some .boolean)) (by decide) rfl ?_
  intro p e s m args below meth c s₁ B hml hv
  obtain ⟨rfl, hsz, hP, hK, hD0, hNw⟩ := hv
  have hx := B.exec
  have hb := B.bytes
  have hr := B.returns
  have hts := atoms_spec (ws := wsX8_isFaulty) B.pre
  have hown : s.vm.findClass RX8 = some m.cls := findClass_of_methodNamed B.named
  have hlocks := B.notSynchronized
  subst hsz
  have hD := hD0.self (sz := s.heap.size)
  generalize hAe : va_A (wd00_27 a0 jn7 jjf jby jl9 jjY jkC jkr) s.heap.size = A at hD ⊢
  have hA : ∀ q : Nat, s.heap.size ≤ q → A q := fun q h => by rw [← hAe]; exact Or.inr h
  have hS : va_S A s.heap s.heap [] := va_S.rf
  have hP : va_P (dC, dI) vwCl (wd00_27 a0 jn7 jjf jby jl9 jjY jkC jkr) s.heap := hP
  have hl := lv_entry ([.ref a0]) (n := 1) (Nat.le_of_ble_eq_true rfl)
  rw [lg_entry_eq]
  generalize (lg_sl ([.ref a0]) ++ List.replicate (1 - (lg_sl ([.ref a0])).length) Slot.unset).toArray = ls at hl ⊢
  have hl : lv_has ls 1 [(0, .ref a0)] := hl
  have C0 : cfx p s m _ meth c cX8_isFaulty (some .boolean) wsX8_isFaulty RX8 1 A (dC, dI) (kT cyB cyI cyJ cyP) := ⟨hx, hb, hr, hts, hown, hlocks, hml, hA, hK, hNw⟩
  clear hAe
  obtain ⟨H, hH⟩ : ∃ H, H = s.heap := ⟨_, rfl⟩
  rw [← hH] at hP ⊢
  have hS : va_S A s.heap H [] := by rw [hH]; exact va_S.rf
  have hS := hS
  refine lv_aload_n hx hb (dt_of tkX8_isFaulty_k0 0 rfl) rfl (lv_at hl 0 rfl) ?_
  refine va_get (D := (dC, dI)) (ci := 8) (v := .int jkC) (C := RX8) (T := TX8) (N := 7) hx hb hts ui_X8_isFaulty_X8 hown hK hP 0 rfl rfl 5 (by decide) (hts _ uw_X8_isFaulty_f37) (fun _ h9 => h9) rfl (dt_of tkX8_isFaulty_k0 1 rfl) ?_
  refine lv_if_eq (tgt := 11) hx hb (dt_of tkX8_isFaulty_k0 2 rfl) (by decide) (fun c1 => ?_) (fun c1 => ?_)
  · have hw := hw.1 c1
    refine lv_iconst (v := 0) hx hb (dt_of tkX8_isFaulty_k0 5 rfl) (by decide) ?_
    exact ((W.zret (v := 0) hx hb hr rfl (fun t ht hW => ⟨⟨0, (), rfl, hw, by rw [ht]; exact hP, va_K.moved hW.alike hK, hD⟩, hS.F ht⟩) hS.2.2 (dt_of tkX8_isFaulty_k0 6 rfl)))
  · have hw := hw.2 c1
    refine lv_iconst (v := 1) hx hb (dt_of tkX8_isFaulty_k0 3 rfl) (by decide) ?_
    refine lv_goto (tgt := 12) hx hb (dt_of tkX8_isFaulty_k0 4 rfl) (by decide) ?_
    exact ((W.zret (v := 1) hx hb hr rfl (fun t ht hW => ⟨⟨1, (), rfl, hw, by rw [ht]; exact hP, va_K.moved hW.alike hK, hD⟩, hS.F ht⟩) hS.2.2 (dt_of tkX8_isFaulty_k0 6 rfl)))
theorem ui_X8_skipBlanks_X8 : ∀ w ∈ u_ws RX8 TX8 7, w ∈ wsX8_skipBlanks := uiM mbX8_skipBlanks euX8 (by decide +kernel)
theorem uw_X8_skipBlanks_f11 : (.fieldLink RX8 11 "MarchHares$Tape" "bytes" "[B" : Cond) ∈ wsX8_skipBlanks := mbX8_skipBlanks 142 (by decide +kernel)
theorem uw_X8_skipBlanks_f28 : (.fieldLink RX8 28 "MarchHares$Tape" "length" "I" : Cond) ∈ wsX8_skipBlanks := mbX8_skipBlanks 712 (by decide +kernel)
theorem uw_X8_skipBlanks_f31 : (.fieldLink RX8 31 "MarchHares$Tape" "at" "I" : Cond) ∈ wsX8_skipBlanks := mbX8_skipBlanks 713 (by decide +kernel)
set_option maxHeartbeats 4000000 in
set_option maxRecDepth 100000 in
theorem kl_X8_skipBlanks_0 {p : Program} {l : Launch} {e : Env} {s : State} {m : MethodId} {args : Array Value} {below : List Frame} {meth : Method} {c : Code} {A : Nat → Prop} (dC : Nat → ClassId) (dI : Nat → Nat → Nat) (cyB cyI cyJ cyP : ClassId) (a0 jif : Nat) (jl9 jjY jmS jkr : Value) (jb7 : Int32) (jjA : Nat → Int32) (Q : Int32 → Prop)  (C0 : cfx p s m args meth c cX8_skipBlanks none wsX8_skipBlanks RX8 1 A (dC, dI) (kT cyB cyI cyJ cyP)) : ∀ (n : Nat) (H : Heap) (locs : List Loc) (ls : Array Slot) (jcP : Int32), va_P (dC, dI) vwCl (wd00_28 a0 jif jb7 jcP jl9 jjY jmS jkr jif cyB jjA) H → va_D A (wd00_28 a0 jif jb7 jcP jl9 jjY jmS jkr jif cyB jjA) → va_S A s.heap H locs → lv_has ls 1 [(0, .ref a0)] → wl_X8_skipBlanks_0 jb7 jjA Q  n jcP → W p l e (headSpec wsX8_skipBlanks ({ frames := 0, cells := 0, slots := 0, locals := 0 })).room s m args below meth c H locs 0 0 (MQ below (va_Qv (fun (u : Int32) => Q u) (cB (dC, dI) (kT cyB cyI cyJ cyP) A (fun u : Int32 => ((wd00_28 a0 jif jb7 u jl9 jjY jmS jkr jif cyB jjA) : va_W))) A) args s 0 0 A) (F0 m 0 ls []) := by
  obtain ⟨hx, hb, hr, hts, hown, hlocks, hml, hA, hK, hNw⟩ := id C0
  intro n
  induction n with
  | zero => intro H locs ls jcP hP hD hS hl hw; exact False.elim hw
  | succ n ih =>
    intro H locs ls jcP hP hD hS hl hw
    refine lv_aload_n hx hb (dt_of tkX8_skipBlanks_k0 0 rfl) rfl (lv_at hl 0 rfl) ?_
    refine va_get (D := (dC, dI)) (ci := 8) (v := .int jcP) (C := RX8) (T := TX8) (N := 7) hx hb hts ui_X8_skipBlanks_X8 hown hK hP 0 rfl rfl 2 (by decide) (hts _ uw_X8_skipBlanks_f31) (fun _ h9 => h9) rfl (dt_of tkX8_skipBlanks_k0 1 rfl) ?_
    refine lv_aload_n hx hb (dt_of tkX8_skipBlanks_k0 2 rfl) rfl (lv_at hl 0 rfl) ?_
    refine va_get (D := (dC, dI)) (ci := 8) (v := .int jb7) (C := RX8) (T := TX8) (N := 7) hx hb hts ui_X8_skipBlanks_X8 hown hK hP 0 rfl rfl 1 (by decide) (hts _ uw_X8_skipBlanks_f28) (fun _ h9 => h9) rfl (dt_of tkX8_skipBlanks_k0 3 rfl) ?_
    refine lv_icmp_ge (tgt := 38) hx hb (dt_of tkX8_skipBlanks_k0 4 rfl) (by decide) (fun c1 => ?_) (fun c1 => ?_)
    · have hw := hw.1 c1
      exact ((W.vret hx hb hr (fun t ht hW => ⟨⟨(jcP), rfl, hw, by rw [ht]; exact hP, va_K.moved hW.alike hK, hD⟩, hS.F ht⟩) hS.2.2 (dt_of tkX8_skipBlanks_k31 3 rfl)))
    · have hw := hw.2 c1
      refine lv_aload_n hx hb (dt_of tkX8_skipBlanks_k0 5 rfl) rfl (lv_at hl 0 rfl) ?_
      refine va_get (D := (dC, dI)) (ci := 8) (v := .ref jif) (C := RX8) (T := TX8) (N := 7) hx hb hts ui_X8_skipBlanks_X8 hown hK hP 0 rfl rfl 0 (by decide) (hts _ uw_X8_skipBlanks_f11) (fun _ h9 => h9) rfl (dt_of tkX8_skipBlanks_k0 6 rfl) ?_
      refine lv_aload_n hx hb (dt_of tkX8_skipBlanks_k0 7 rfl) rfl (lv_at hl 0 rfl) ?_
      refine va_get (D := (dC, dI)) (ci := 8) (v := .int jcP) (C := RX8) (T := TX8) (N := 7) hx hb hts ui_X8_skipBlanks_X8 hown hK hP 0 rfl rfl 2 (by decide) (hts _ uw_X8_skipBlanks_f31) (fun _ h9 => h9) rfl (dt_of tkX8_skipBlanks_k0 8 rfl) ?_
      obtain ⟨hi9, hw⟩ := hw
      refine va_bald hx hb hK hP 1 0 rfl rfl hi9 (dt_of tkX8_skipBlanks_k0 9 rfl) ?_
      refine lv_topi (fun x2 ex2 => ?_)
      have hw := hw x2 ex2
      refine lv_bipush (v := 32) hx hb (dt_of tkX8_skipBlanks_k0 10 rfl) (by decide) ?_
      refine lv_icmp_ne (tgt := 38) hx hb (dt_of tkX8_skipBlanks_k0 11 rfl) (by decide) (fun c3 => ?_) (fun c3 => ?_)
      · have hw := hw.1 c3
        exact ((W.vret hx hb hr (fun t ht hW => ⟨⟨(jcP), rfl, hw, by rw [ht]; exact hP, va_K.moved hW.alike hK, hD⟩, hS.F ht⟩) hS.2.2 (dt_of tkX8_skipBlanks_k31 3 rfl)))
      · have hw := hw.2 c3
        refine lv_aload_n hx hb (dt_of tkX8_skipBlanks_k0 12 rfl) rfl (lv_at hl 0 rfl) ?_
        refine lv_dup hx hb (dt_of tkX8_skipBlanks_k0 13 rfl) rfl ?_
        refine va_get (D := (dC, dI)) (ci := 8) (v := .int jcP) (C := RX8) (T := TX8) (N := 7) hx hb hts ui_X8_skipBlanks_X8 hown hK hP 0 rfl rfl 2 (by decide) (hts _ uw_X8_skipBlanks_f31) (fun _ h9 => h9) rfl (dt_of tkX8_skipBlanks_k0 14 rfl) ?_
        refine lv_iconst (v := 1) hx hb (dt_of tkX8_skipBlanks_k0 15 rfl) (by decide) ?_
        refine lv_iadd hx hb (dt_of tkX8_skipBlanks_k31 0 rfl) ?_
        refine lv_topi (fun x4 ex4 => ?_)
        have hw := hw x4 ex4
        refine va_put (D := (dC, dI)) (ci := 8) (v := .int x4) (ty := .int) (C := RX8) (T := TX8) (N := 7) hx hb hts ui_X8_skipBlanks_X8 tyX8 tyX8_ok nmX8 hown hK hP hD hS 0 rfl rfl 2 (by decide) (hts _ uw_X8_skipBlanks_f31) (fun _ h9 => h9) rfl (by decide +kernel) rfl rfl (Nat.le_of_ble_eq_true rfl) (dt_of tkX8_skipBlanks_k31 1 rfl) (fun H locs hP hD hS => ?_)
        have hP : va_P (dC, dI) vwCl (wd00_28 a0 jif jb7 x4 jl9 jjY jmS jkr jif cyB jjA) H := hP
        have hD : va_D A (wd00_28 a0 jif jb7 x4 jl9 jjY jmS jkr jif cyB jjA) := hD
        refine lv_goto (tgt := 0) hx hb (dt_of tkX8_skipBlanks_k31 2 rfl) (by decide) ?_
        exact ih _ _ _ x4 hP hD hS (lv_sub hl [0] rfl) hw
set_option maxHeartbeats 4000000 in
set_option maxRecDepth 100000 in
theorem ck_X8_skipBlanks (l : Launch) (dC : Nat → ClassId) (dI : Nat → Nat → Nat) (cyB cyI cyJ cyP : ClassId) (a0 jif sz : Nat) (jl9 jjY jmS jkr : Value) (jb7 : Int32) (jjA : Nat → Int32) (jcP : Int32)  {Q : Int32 → Prop} (hw : wq_X8_skipBlanks jb7 jjA jcP  Q) : Met l yX8_skipBlanks wsX8_skipBlanks ({ frames := 0, cells := 0, slots := 0, locals := 0 }) (va_Pc [.ref a0] (cPc (dC, dI) (kT cyB cyI cyJ cyP) (wd00_28 a0 jif jb7 jcP jl9 jjY jmS jkr jif cyB jjA) sz)) (va_Qv (fun (u : Int32) => Q u) (cB (dC, dI) (kT cyB cyI cyJ cyP) (va_A (wd00_28 a0 jif jb7 jcP jl9 jjY jmS jkr jif cyB jjA) sz) (fun u : Int32 => ((wd00_28 a0 jif jb7 u jl9 jjY jmS jkr jif cyB jjA) : va_W))) (va_A (wd00_28 a0 jif jb7 jcP jl9 jjY jmS jkr jif cyB jjA) sz)) 0 0 (va_A (wd00_28 a0 jif jb7 jcP jl9 jjY jmS jkr jif cyB jjA) sz) := by
  refine Met.ofW (cc := cX8_skipBlanks) (maxL := 1) (ret := none) (by decide) rfl ?_
  intro p e s m args below meth c s₁ B hml hv
  obtain ⟨rfl, hsz, hP, hK, hD0, hNw⟩ := hv
  have hx := B.exec
  have hb := B.bytes
  have hr := B.returns
  have hts := atoms_spec (ws := wsX8_skipBlanks) B.pre
  have hown : s.vm.findClass RX8 = some m.cls := findClass_of_methodNamed B.named
  have hlocks := B.notSynchronized
  subst hsz
  have hD := hD0.self (sz := s.heap.size)
  generalize hAe : va_A (wd00_28 a0 jif jb7 jcP jl9 jjY jmS jkr jif cyB jjA) s.heap.size = A at hD ⊢
  have hA : ∀ q : Nat, s.heap.size ≤ q → A q := fun q h => by rw [← hAe]; exact Or.inr h
  have hS : va_S A s.heap s.heap [] := va_S.rf
  have hP : va_P (dC, dI) vwCl (wd00_28 a0 jif jb7 jcP jl9 jjY jmS jkr jif cyB jjA) s.heap := hP
  have hl := lv_entry ([.ref a0]) (n := 1) (Nat.le_of_ble_eq_true rfl)
  rw [lg_entry_eq]
  generalize (lg_sl ([.ref a0]) ++ List.replicate (1 - (lg_sl ([.ref a0])).length) Slot.unset).toArray = ls at hl ⊢
  have hl : lv_has ls 1 [(0, .ref a0)] := hl
  have C0 : cfx p s m _ meth c cX8_skipBlanks none wsX8_skipBlanks RX8 1 A (dC, dI) (kT cyB cyI cyJ cyP) := ⟨hx, hb, hr, hts, hown, hlocks, hml, hA, hK, hNw⟩
  clear hAe
  obtain ⟨H, hH⟩ : ∃ H, H = s.heap := ⟨_, rfl⟩
  rw [← hH] at hP ⊢
  have hS : va_S A s.heap H [] := by rw [hH]; exact va_S.rf
  have hS := hS
  obtain ⟨n9, hw⟩ := hw
  exact kl_X8_skipBlanks_0 dC dI cyB cyI cyJ cyP a0 jif jl9 jjY jmS jkr jb7 jjA Q  C0 n9 _ _ _ jcP hP hD hS (lv_sub hl [0] rfl) hw
theorem ui_X8_isEnded_X8 : ∀ w ∈ u_ws RX8 TX8 7, w ∈ wsX8_isEnded := uiM mbX8_isEnded euX8 (by decide +kernel)
theorem uw_X8_isEnded_f28 : (.fieldLink RX8 28 "MarchHares$Tape" "length" "I" : Cond) ∈ wsX8_isEnded := mbX8_isEnded 712 (by decide +kernel)
theorem uw_X8_isEnded_f31 : (.fieldLink RX8 31 "MarchHares$Tape" "at" "I" : Cond) ∈ wsX8_isEnded := mbX8_isEnded 713 (by decide +kernel)
set_option maxHeartbeats 4000000 in
set_option maxRecDepth 100000 in
theorem ck_X8_isEnded (l : Launch) (dC : Nat → ClassId) (dI : Nat → Nat → Nat) (cyB cyI cyJ cyP : ClassId) (a0 jif sz : Nat) (jl9 jjY jmS jkr : Value) (jb7 : Int32) (jjA : Nat → Int32) (jcP : Int32)  {Q : Int32 → Int32 → Prop} (hw : wq_X8_isEnded jb7 jjA jcP  Q) : Met l yX8_isEnded wsX8_isEnded ({ frames := 1, cells := 0, slots := 0, locals := 20 }) (va_Pc [.ref a0] (cPc (dC, dI) (kT cyB cyI cyJ cyP) (wd00_28 a0 jif jb7 jcP jl9 jjY jmS jkr jif cyB jjA) sz)) (va_Qi (fun (r u : Int32) => Q r u) (cB (dC, dI) (kT cyB cyI cyJ cyP) (va_A (wd00_28 a0 jif jb7 jcP jl9 jjY jmS jkr jif cyB jjA) sz) (fun u : Int32 => ((wd00_28 a0 jif jb7 u jl9 jjY jmS jkr jif cyB jjA) : va_W))) (va_A (wd00_28 a0 jif jb7 jcP jl9 jjY jmS jkr jif cyB jjA) sz)) 0 0 (va_A (wd00_28 a0 jif jb7 jcP jl9 jjY jmS jkr jif cyB jjA) sz) := by
  refine Met.ofW (cc := cX8_isEnded) (maxL := 1) (ret := (some .boolean)) (by decide) rfl ?_
  intro p e s m args below meth c s₁ B hml hv
  obtain ⟨rfl, hsz, hP, hK, hD0, hNw⟩ := hv
  have hx := B.exec
  have hb := B.bytes
  have hr := B.returns
  have hts := atoms_spec (ws := wsX8_isEnded) B.pre
  have hown : s.vm.findClass RX8 = some m.cls := findClass_of_methodNamed B.named
  have hlocks := B.notSynchronized
  subst hsz
  have hD := hD0.self (sz := s.heap.size)
  generalize hAe : va_A (wd00_28 a0 jif jb7 jcP jl9 jjY jmS jkr jif cyB jjA) s.heap.size = A at hD ⊢
  have hA : ∀ q : Nat, s.heap.size ≤ q → A q := fun q h => by rw [← hAe]; exact Or.inr h
  have hS : va_S A s.heap s.heap [] := va_S.rf
  have hP : va_P (dC, dI) vwCl (wd00_28 a0 jif jb7 jcP jl9 jjY jmS jkr jif cyB jjA) s.heap := hP
  have hl := lv_entry ([.ref a0]) (n := 1) (Nat.le_of_ble_eq_true rfl)
  rw [lg_entry_eq]
  generalize (lg_sl ([.ref a0]) ++ List.replicate (1 - (lg_sl ([.ref a0])).length) Slot.unset).toArray = ls at hl ⊢
  have hl : lv_has ls 1 [(0, .ref a0)] := hl
  have C0 : cfx p s m _ meth c cX8_isEnded (some .boolean) wsX8_isEnded RX8 1 A (dC, dI) (kT cyB cyI cyJ cyP) := ⟨hx, hb, hr, hts, hown, hlocks, hml, hA, hK, hNw⟩
  clear hAe
  obtain ⟨H, hH⟩ : ∃ H, H = s.heap := ⟨_, rfl⟩
  rw [← hH] at hP ⊢
  have hS : va_S A s.heap H [] := by rw [hH]; exact va_S.rf
  have hS := hS
  refine lv_aload_n hx hb (dt_of tkX8_isEnded_k0 0 rfl) rfl (lv_at hl 0 rfl) ?_
  obtain ⟨hCc, hPc, hDc, hFc⟩ := va_pick (ws' := (wd00_28 a0 jif jb7 jcP jl9 jjY jmS jkr jif cyB jjA)) hP hD hS hA [0, 1] (by decide +kernel) rfl
  refine va_callv (va_runV (As := []) (rest := []) ⟨hx, hb, hml, hown, hts⟩ (ck_X8_skipBlanks l dC dI cyB cyI cyJ cyP a0 jif H.size (jl9) (jjY) (jmS) (jkr) jb7 jjA jcP  hw) (cwV 0 hts gX8_isEnded_X8_skipBlanks rfl rfl rfl (by decide +kernel) ⟨Nat.le_of_ble_eq_true rfl, Nat.le_of_ble_eq_true rfl⟩) ⟨cPc_blind, va_recv (q := (RX8, TX8, 7)) hK hPc (ci := 8) (q0 := 0) rfl rfl, cPc_pre hPc hK hDc hNw⟩ rfl rfl hl.1 rfl (lv_room (Nat.le_of_ble_eq_true rfl)) (dt_of tkX8_isEnded_k0 1 rfl) ⟨Nat.le_of_ble_eq_true rfl, Nat.le_of_ble_eq_true rfl⟩) hS (fun q _ h => hFc q h) hFc (fun u t H1 locs ht hvm hw hB hz1 hk1 hS => ?_)
  obtain ⟨x1, rfl⟩ : ∃ z, z = u := ⟨_, rfl⟩
  obtain ⟨hP1, hK1, hD1⟩ := hB
  rw [ht] at hP1
  obtain ⟨hP, hD⟩ := va_joinI (wr := []) (w1 := (wd00_28 a0 jif jb7 x1 jl9 jjY jmS jkr jif cyB jjA)) (wn := (wd00_28 a0 jif jb7 x1 jl9 jjY jmS jkr jif cyB jjA)) hP hD [0, 1] [] hCc rfl (by decide +kernel) (by decide +kernel) rfl hk1 hFc hP1 hD1
  generalize H1 = H at hP hS ⊢
  refine lv_aload_n hx hb (dt_of tkX8_isEnded_k0 2 rfl) rfl (lv_at hl 0 rfl) ?_
  refine va_get (D := (dC, dI)) (ci := 8) (v := .int x1) (C := RX8) (T := TX8) (N := 7) hx hb hts ui_X8_isEnded_X8 hown hK hP 0 rfl rfl 2 (by decide) (hts _ uw_X8_isEnded_f31) (fun _ h9 => h9) rfl (dt_of tkX8_isEnded_k0 3 rfl) ?_
  refine lv_aload_n hx hb (dt_of tkX8_isEnded_k0 4 rfl) rfl (lv_at hl 0 rfl) ?_
  refine va_get (D := (dC, dI)) (ci := 8) (v := .int jb7) (C := RX8) (T := TX8) (N := 7) hx hb hts ui_X8_isEnded_X8 hown hK hP 0 rfl rfl 1 (by decide) (hts _ uw_X8_isEnded_f28) (fun _ h9 => h9) rfl (dt_of tkX8_isEnded_k0 5 rfl) ?_
  refine lv_icmp_lt (tgt := 19) hx hb (dt_of tkX8_isEnded_k0 6 rfl) (by decide) (fun c2 => ?_) (fun c2 => ?_)
  · have hw := hw.1 c2
    refine lv_iconst (v := 0) hx hb (dt_of tkX8_isEnded_k0 9 rfl) (by decide) ?_
    exact ((W.zret (v := 0) hx hb hr rfl (fun t ht hW => ⟨⟨0, (x1), rfl, hw, by rw [ht]; exact hP, va_K.moved hW.alike hK, hD⟩, hS.F ht⟩) hS.2.2 (dt_of tkX8_isEnded_k0 10 rfl)))
  · have hw := hw.2 c2
    refine lv_iconst (v := 1) hx hb (dt_of tkX8_isEnded_k0 7 rfl) (by decide) ?_
    refine lv_goto (tgt := 20) hx hb (dt_of tkX8_isEnded_k0 8 rfl) (by decide) ?_
    exact ((W.zret (v := 1) hx hb hr rfl (fun t ht hW => ⟨⟨1, (x1), rfl, hw, by rw [ht]; exact hP, va_K.moved hW.alike hK, hD⟩, hS.F ht⟩) hS.2.2 (dt_of tkX8_isEnded_k0 10 rfl)))
theorem ui_X8_digitAt_X8 : ∀ w ∈ u_ws RX8 TX8 7, w ∈ wsX8_digitAt := uiM mbX8_digitAt euX8 (by decide +kernel)
theorem uw_X8_digitAt_f11 : (.fieldLink RX8 11 "MarchHares$Tape" "bytes" "[B" : Cond) ∈ wsX8_digitAt := mbX8_digitAt 142 (by decide +kernel)
theorem uw_X8_digitAt_f28 : (.fieldLink RX8 28 "MarchHares$Tape" "length" "I" : Cond) ∈ wsX8_digitAt := mbX8_digitAt 712 (by decide +kernel)
set_option maxHeartbeats 4000000 in
set_option maxRecDepth 100000 in
theorem ck_X8_digitAt (l : Launch) (dC : Nat → ClassId) (dI : Nat → Nat → Nat) (cyB cyI cyJ cyP : ClassId) (a0 jif sz : Nat) (jby jl9 jjY jmS jkr : Value) (jb7 : Int32) (jjA : Nat → Int32)  (p1 : Int32) {Q : Int32 → Prop} (hw : wq_X8_digitAt jb7 jjA  p1 Q) : Met l yX8_digitAt wsX8_digitAt ({ frames := 0, cells := 0, slots := 0, locals := 0 }) (va_Pc [.ref a0, .int p1] (cPc (dC, dI) (kT cyB cyI cyJ cyP) (wd00_29 a0 jif jb7 jby jl9 jjY jmS jkr jif cyB jjA) sz)) (va_Qi (fun (r : Int32) (_ : Unit) => Q r ) (cB (dC, dI) (kT cyB cyI cyJ cyP) (va_A (wd00_29 a0 jif jb7 jby jl9 jjY jmS jkr jif cyB jjA) sz) (fun u : Unit => ((wd00_29 a0 jif jb7 jby jl9 jjY jmS jkr jif cyB jjA) : va_W))) (va_A (wd00_29 a0 jif jb7 jby jl9 jjY jmS jkr jif cyB jjA) sz)) 0 0 (va_A (wd00_29 a0 jif jb7 jby jl9 jjY jmS jkr jif cyB jjA) sz) := by
  refine Met.ofW (cc := cX8_digitAt) (maxL := 2) (ret := (some .int)) (by decide) rfl ?_
  intro p e s m args below meth c s₁ B hml hv
  obtain ⟨rfl, hsz, hP, hK, hD0, hNw⟩ := hv
  have hx := B.exec
  have hb := B.bytes
  have hr := B.returns
  have hts := atoms_spec (ws := wsX8_digitAt) B.pre
  have hown : s.vm.findClass RX8 = some m.cls := findClass_of_methodNamed B.named
  have hlocks := B.notSynchronized
  subst hsz
  have hD := hD0.self (sz := s.heap.size)
  generalize hAe : va_A (wd00_29 a0 jif jb7 jby jl9 jjY jmS jkr jif cyB jjA) s.heap.size = A at hD ⊢
  have hA : ∀ q : Nat, s.heap.size ≤ q → A q := fun q h => by rw [← hAe]; exact Or.inr h
  have hS : va_S A s.heap s.heap [] := va_S.rf
  have hP : va_P (dC, dI) vwCl (wd00_29 a0 jif jb7 jby jl9 jjY jmS jkr jif cyB jjA) s.heap := hP
  have hl := lv_entry ([.ref a0, .int p1]) (n := 2) (Nat.le_of_ble_eq_true rfl)
  rw [lg_entry_eq]
  generalize (lg_sl ([.ref a0, .int p1]) ++ List.replicate (2 - (lg_sl ([.ref a0, .int p1])).length) Slot.unset).toArray = ls at hl ⊢
  have hl : lv_has ls 2 [(0, .ref a0), (1, .int p1)] := hl
  have C0 : cfx p s m _ meth c cX8_digitAt (some .int) wsX8_digitAt RX8 2 A (dC, dI) (kT cyB cyI cyJ cyP) := ⟨hx, hb, hr, hts, hown, hlocks, hml, hA, hK, hNw⟩
  clear hAe
  obtain ⟨H, hH⟩ : ∃ H, H = s.heap := ⟨_, rfl⟩
  rw [← hH] at hP ⊢
  have hS : va_S A s.heap H [] := by rw [hH]; exact va_S.rf
  have hS := hS
  refine lv_iload_n hx hb (dt_of tkX8_digitAt_k0 0 rfl) rfl (lv_at hl 1 rfl) ?_
  refine lv_aload_n hx hb (dt_of tkX8_digitAt_k0 1 rfl) rfl (lv_at hl 0 rfl) ?_
  refine va_get (D := (dC, dI)) (ci := 8) (v := .int jb7) (C := RX8) (T := TX8) (N := 7) hx hb hts ui_X8_digitAt_X8 hown hK hP 0 rfl rfl 1 (by decide) (hts _ uw_X8_digitAt_f28) (fun _ h9 => h9) rfl (dt_of tkX8_digitAt_k0 2 rfl) ?_
  refine lv_icmp_ge (tgt := 30) hx hb (dt_of tkX8_digitAt_k0 3 rfl) (by decide) (fun c1 => ?_) (fun c1 => ?_)
  · have hw := hw.1 c1
    refine lv_iconst (v := (-1)) hx hb (dt_of tkX8_digitAt_k30 0 rfl) (by decide) ?_
    exact ((W.iret (v := (-1)) hx hb hr (fun t ht hW => ⟨⟨(-1), (), rfl, hw, by rw [ht]; exact hP, va_K.moved hW.alike hK, hD⟩, hS.F ht⟩) hS.2.2 (dt_of tkX8_digitAt_k30 1 rfl)))
  · have hw := hw.2 c1
    refine lv_aload_n hx hb (dt_of tkX8_digitAt_k0 4 rfl) rfl (lv_at hl 0 rfl) ?_
    refine va_get (D := (dC, dI)) (ci := 8) (v := .ref jif) (C := RX8) (T := TX8) (N := 7) hx hb hts ui_X8_digitAt_X8 hown hK hP 0 rfl rfl 0 (by decide) (hts _ uw_X8_digitAt_f11) (fun _ h9 => h9) rfl (dt_of tkX8_digitAt_k0 5 rfl) ?_
    refine lv_iload_n hx hb (dt_of tkX8_digitAt_k0 6 rfl) rfl (lv_at hl 1 rfl) ?_
    obtain ⟨hi9, hw⟩ := hw
    refine va_bald hx hb hK hP 1 0 rfl rfl hi9 (dt_of tkX8_digitAt_k0 7 rfl) ?_
    refine lv_topi (fun x2 ex2 => ?_)
    have hw := hw x2 ex2
    refine lv_bipush (v := 48) hx hb (dt_of tkX8_digitAt_k0 8 rfl) (by decide) ?_
    refine lv_icmp_lt (tgt := 30) hx hb (dt_of tkX8_digitAt_k0 9 rfl) (by decide) (fun c3 => ?_) (fun c3 => ?_)
    · have hw := hw.1 c3
      refine lv_iconst (v := (-1)) hx hb (dt_of tkX8_digitAt_k30 0 rfl) (by decide) ?_
      exact ((W.iret (v := (-1)) hx hb hr (fun t ht hW => ⟨⟨(-1), (), rfl, hw, by rw [ht]; exact hP, va_K.moved hW.alike hK, hD⟩, hS.F ht⟩) hS.2.2 (dt_of tkX8_digitAt_k30 1 rfl)))
    · have hw := hw.2 c3
      refine lv_aload_n hx hb (dt_of tkX8_digitAt_k0 10 rfl) rfl (lv_at hl 0 rfl) ?_
      refine va_get (D := (dC, dI)) (ci := 8) (v := .ref jif) (C := RX8) (T := TX8) (N := 7) hx hb hts ui_X8_digitAt_X8 hown hK hP 0 rfl rfl 0 (by decide) (hts _ uw_X8_digitAt_f11) (fun _ h9 => h9) rfl (dt_of tkX8_digitAt_k0 11 rfl) ?_
      refine lv_iload_n hx hb (dt_of tkX8_digitAt_k0 12 rfl) rfl (lv_at hl 1 rfl) ?_
      obtain ⟨hi9, hw⟩ := hw
      refine va_bald hx hb hK hP 1 0 rfl rfl hi9 (dt_of tkX8_digitAt_k0 13 rfl) ?_
      refine lv_topi (fun x4 ex4 => ?_)
      have hw := hw x4 ex4
      refine lv_bipush (v := 57) hx hb (dt_of tkX8_digitAt_k0 14 rfl) (by decide) ?_
      refine lv_icmp_le (tgt := 32) hx hb (dt_of tkX8_digitAt_k0 15 rfl) (by decide) (fun c5 => ?_) (fun c5 => ?_)
      · have hw := hw.1 c5
        refine lv_aload_n hx hb (dt_of tkX8_digitAt_k30 2 rfl) rfl (lv_at hl 0 rfl) ?_
        refine va_get (D := (dC, dI)) (ci := 8) (v := .ref jif) (C := RX8) (T := TX8) (N := 7) hx hb hts ui_X8_digitAt_X8 hown hK hP 0 rfl rfl 0 (by decide) (hts _ uw_X8_digitAt_f11) (fun _ h9 => h9) rfl (dt_of tkX8_digitAt_k30 3 rfl) ?_
        refine lv_iload_n hx hb (dt_of tkX8_digitAt_k30 4 rfl) rfl (lv_at hl 1 rfl) ?_
        obtain ⟨hi9, hw⟩ := hw
        refine va_bald hx hb hK hP 1 0 rfl rfl hi9 (dt_of tkX8_digitAt_k30 5 rfl) ?_
        refine lv_topi (fun x6 ex6 => ?_)
        have hw := hw x6 ex6
        refine lv_bipush (v := 48) hx hb (dt_of tkX8_digitAt_k30 6 rfl) (by decide) ?_
        refine lv_isub hx hb (dt_of tkX8_digitAt_k30 7 rfl) ?_
        exact ((W.iret (v := (x6 - 48)) hx hb hr (fun t ht hW => ⟨⟨(x6 - 48), (), rfl, hw, by rw [ht]; exact hP, va_K.moved hW.alike hK, hD⟩, hS.F ht⟩) hS.2.2 (dt_of tkX8_digitAt_k30 8 rfl)))
      · have hw := hw.2 c5
        refine lv_iconst (v := (-1)) hx hb (dt_of tkX8_digitAt_k30 0 rfl) (by decide) ?_
        exact ((W.iret (v := (-1)) hx hb hr (fun t ht hW => ⟨⟨(-1), (), rfl, hw, by rw [ht]; exact hP, va_K.moved hW.alike hK, hD⟩, hS.F ht⟩) hS.2.2 (dt_of tkX8_digitAt_k30 1 rfl)))
theorem ui_X8_blame_X8 : ∀ w ∈ u_ws RX8 TX8 7, w ∈ wsX8_blame := uiM mbX8_blame euX8 (by decide +kernel)
theorem uw_X8_blame_f15 : (.fieldLink RX8 15 "MarchHares$Tape" "faultPlace" "I" : Cond) ∈ wsX8_blame := mbX8_blame 143 (by decide +kernel)
theorem uw_X8_blame_f37 : (.fieldLink RX8 37 "MarchHares$Tape" "fault" "I" : Cond) ∈ wsX8_blame := mbX8_blame 715 (by decide +kernel)
set_option maxHeartbeats 4000000 in
set_option maxRecDepth 100000 in
theorem ck_X8_blame (l : Launch) (dC : Nat → ClassId) (dI : Nat → Nat → Nat) (cyB cyI cyJ cyP : ClassId) (a0 sz : Nat) (jn7 jjf jby jl9 jjY : Value)  (jkC jj3 p1 p2 : Int32) {Q : Int32 → Int32 → Prop} (hw : wq_X8_blame  jkC jj3 p1 p2 Q) : Met l yX8_blame wsX8_blame ({ frames := 0, cells := 0, slots := 0, locals := 0 }) (va_Pc [.ref a0, .int p1, .int p2] (cPc (dC, dI) (kT cyB cyI cyJ cyP) (wd00_30 a0 jn7 jjf jby jl9 jjY jkC jj3) sz)) (va_Qv (fun (u : Int32 × Int32) => Q u.1 u.2) (cB (dC, dI) (kT cyB cyI cyJ cyP) (va_A (wd00_30 a0 jn7 jjf jby jl9 jjY jkC jj3) sz) (fun u : Int32 × Int32 => ((wd00_30 a0 jn7 jjf jby jl9 jjY u.1 u.2) : va_W))) (va_A (wd00_30 a0 jn7 jjf jby jl9 jjY jkC jj3) sz)) 0 0 (va_A (wd00_30 a0 jn7 jjf jby jl9 jjY jkC jj3) sz) := by
  refine Met.ofW (cc := cX8_blame) (maxL := 3) (ret := none) (by decide) rfl ?_
  intro p e s m args below meth c s₁ B hml hv
  obtain ⟨rfl, hsz, hP, hK, hD0, hNw⟩ := hv
  have hx := B.exec
  have hb := B.bytes
  have hr := B.returns
  have hts := atoms_spec (ws := wsX8_blame) B.pre
  have hown : s.vm.findClass RX8 = some m.cls := findClass_of_methodNamed B.named
  have hlocks := B.notSynchronized
  subst hsz
  have hD := hD0.self (sz := s.heap.size)
  generalize hAe : va_A (wd00_30 a0 jn7 jjf jby jl9 jjY jkC jj3) s.heap.size = A at hD ⊢
  have hA : ∀ q : Nat, s.heap.size ≤ q → A q := fun q h => by rw [← hAe]; exact Or.inr h
  have hS : va_S A s.heap s.heap [] := va_S.rf
  have hP : va_P (dC, dI) vwCl (wd00_30 a0 jn7 jjf jby jl9 jjY jkC jj3) s.heap := hP
  have hl := lv_entry ([.ref a0, .int p1, .int p2]) (n := 3) (Nat.le_of_ble_eq_true rfl)
  rw [lg_entry_eq]
  generalize (lg_sl ([.ref a0, .int p1, .int p2]) ++ List.replicate (3 - (lg_sl ([.ref a0, .int p1, .int p2])).length) Slot.unset).toArray = ls at hl ⊢
  have hl : lv_has ls 3 [(0, .ref a0), (1, .int p1), (2, .int p2)] := hl
  have C0 : cfx p s m _ meth c cX8_blame none wsX8_blame RX8 3 A (dC, dI) (kT cyB cyI cyJ cyP) := ⟨hx, hb, hr, hts, hown, hlocks, hml, hA, hK, hNw⟩
  clear hAe
  obtain ⟨H, hH⟩ : ∃ H, H = s.heap := ⟨_, rfl⟩
  rw [← hH] at hP ⊢
  have hS : va_S A s.heap H [] := by rw [hH]; exact va_S.rf
  have hS := hS
  refine lv_aload_n hx hb (dt_of tkX8_blame_k0 0 rfl) rfl (lv_at hl 0 rfl) ?_
  refine va_get (D := (dC, dI)) (ci := 8) (v := .int jkC) (C := RX8) (T := TX8) (N := 7) hx hb hts ui_X8_blame_X8 hown hK hP 0 rfl rfl 5 (by decide) (hts _ uw_X8_blame_f37) (fun _ h9 => h9) rfl (dt_of tkX8_blame_k0 1 rfl) ?_
  refine lv_if_ne (tgt := 17) hx hb (dt_of tkX8_blame_k0 2 rfl) (by decide) (fun c1 => ?_) (fun c1 => ?_)
  · have hw := hw.1 c1
    exact ((W.vret hx hb hr (fun t ht hW => ⟨⟨(jkC, jj3), rfl, hw, by rw [ht]; exact hP, va_K.moved hW.alike hK, hD⟩, hS.F ht⟩) hS.2.2 (dt_of tkX8_blame_k0 9 rfl)))
  · have hw := hw.2 c1
    refine lv_aload_n hx hb (dt_of tkX8_blame_k0 3 rfl) rfl (lv_at hl 0 rfl) ?_
    refine lv_iload_n hx hb (dt_of tkX8_blame_k0 4 rfl) rfl (lv_at hl 1 rfl) ?_
    refine va_put (D := (dC, dI)) (ci := 8) (v := .int p1) (ty := .int) (C := RX8) (T := TX8) (N := 7) hx hb hts ui_X8_blame_X8 tyX8 tyX8_ok nmX8 hown hK hP hD hS 0 rfl rfl 5 (by decide) (hts _ uw_X8_blame_f37) (fun _ h9 => h9) rfl (by decide +kernel) rfl rfl (Nat.le_of_ble_eq_true rfl) (dt_of tkX8_blame_k0 5 rfl) (fun H locs hP hD hS => ?_)
    have hP : va_P (dC, dI) vwCl (wd00_30 a0 jn7 jjf jby jl9 jjY p1 jj3) H := hP
    have hD : va_D A (wd00_30 a0 jn7 jjf jby jl9 jjY p1 jj3) := hD
    refine lv_aload_n hx hb (dt_of tkX8_blame_k0 6 rfl) rfl (lv_at hl 0 rfl) ?_
    refine lv_iload_n hx hb (dt_of tkX8_blame_k0 7 rfl) rfl (lv_at hl 2 rfl) ?_
    refine va_put (D := (dC, dI)) (ci := 8) (v := .int p2) (ty := .int) (C := RX8) (T := TX8) (N := 7) hx hb hts ui_X8_blame_X8 tyX8 tyX8_ok nmX8 hown hK hP hD hS 0 rfl rfl 6 (by decide) (hts _ uw_X8_blame_f15) (fun _ h9 => h9) rfl (by decide +kernel) rfl rfl (Nat.le_of_ble_eq_true rfl) (dt_of tkX8_blame_k0 8 rfl) (fun H locs hP hD hS => ?_)
    have hP : va_P (dC, dI) vwCl (wd00_30 a0 jn7 jjf jby jl9 jjY p1 p2) H := hP
    have hD : va_D A (wd00_30 a0 jn7 jjf jby jl9 jjY p1 p2) := hD
    exact ((W.vret hx hb hr (fun t ht hW => ⟨⟨(p1, p2), rfl, hw, by rw [ht]; exact hP, va_K.moved hW.alike hK, hD⟩, hS.F ht⟩) hS.2.2 (dt_of tkX8_blame_k0 9 rfl)))
theorem ui_X8_number_X8 : ∀ w ∈ u_ws RX8 TX8 7, w ∈ wsX8_number := uiM mbX8_number euX8 (by decide +kernel)
theorem uw_X8_number_f28 : (.fieldLink RX8 28 "MarchHares$Tape" "length" "I" : Cond) ∈ wsX8_number := mbX8_number 712 (by decide +kernel)
theorem uw_X8_number_f31 : (.fieldLink RX8 31 "MarchHares$Tape" "at" "I" : Cond) ∈ wsX8_number := mbX8_number 713 (by decide +kernel)
theorem uw_X8_number_f34 : (.fieldLink RX8 34 "MarchHares$Tape" "token" "I" : Cond) ∈ wsX8_number := mbX8_number 714 (by decide +kernel)
theorem uw_X8_number_iniRX10 : (.initialized RX10 : Cond) ∈ wsX8_number := mbX8_number 2 (by decide +kernel)
theorem uw_X8_number_inim : (.initialized "java/lang/Math" : Cond) ∈ wsX8_number := mbX8_number 651 (by decide +kernel)
theorem uw_X8_number_k78 : (.constant RX8 78 (100000) : Cond) ∈ wsX8_number := mbX8_number 973 (by decide +kernel)
theorem uw_X8_number_m22 : (.methodLink RX8 22 Lib.Math.min.name : Cond) ∈ wsX8_number := mbX8_number 711 (by decide +kernel)
theorem uw_X8_number_mcmin : (.code Lib.Math.min.name Lib.Math.min.code 2 (some .int) : Cond) ∈ wsX8_number := mbX8_number 652 (by decide +kernel)
theorem uw_X8_number_msmin : (.static Lib.Math.min.name : Cond) ∈ wsX8_number := mbX8_number 650 (by decide +kernel)
theorem uw_X8_number_stX10_within : (.static yX10_within : Cond) ∈ wsX8_number := mbX8_number 658 (by decide +kernel)
set_option maxHeartbeats 4000000 in
set_option maxRecDepth 100000 in
theorem kb_X8_number_97 {p : Program} {l : Launch} {e : Env} {s : State} {m : MethodId} {args : Array Value} {below : List Frame} {meth : Method} {c : Code} {A : Nat → Prop} (dC : Nat → ClassId) (dI : Nat → Nat → Nat) (cyB cyI cyJ cyP : ClassId) (a0 jif : Nat) (jjY : Value) (jb7 : Int32) (jjA : Nat → Int32) (Q : Int32 → Int32 → Int32 → Int32 → Int32 → Prop)  (C0 : cfx p s m args meth c cX8_number (some .int) wsX8_number RX8 4 A (dC, dI) (kT cyB cyI cyJ cyP)) : ∀ (H : Heap) (locs : List Loc) (ls : Array Slot) (jcP jkC jj3 jlr l1 l2 l3 : Int32), va_P (dC, dI) vwCl (wd00_31 a0 jif jb7 jcP jlr jjY jkC jj3 jif cyB jjA) H → va_D A (wd00_31 a0 jif jb7 jcP jlr jjY jkC jj3 jif cyB jjA) → va_S A s.heap H locs → lv_has ls 4 [(0, .ref a0), (1, .int l1), (2, .int l2), (3, .int l3)] → wb_X8_number_97 jb7 jjA Q  jcP jkC jj3 jlr l1 l2 l3 → W p l e (headSpec wsX8_number ({ frames := 1, cells := 0, slots := 0, locals := 32 })).room s m args below meth c H locs 0 0 (MQ below (va_Qi (fun (r : Int32) (u : Int32 × Int32 × Int32 × Int32) => Q r u.1 u.2.1 u.2.2.1 u.2.2.2) (cB (dC, dI) (kT cyB cyI cyJ cyP) A (fun u : Int32 × Int32 × Int32 × Int32 => ((wd00_31 a0 jif jb7 u.1 u.2.2.2 jjY u.2.1 u.2.2.1 jif cyB jjA) : va_W))) A) args s 0 0 A) (F0 m 97 ls []) := by
  obtain ⟨hx, hb, hr, hts, hown, hlocks, hml, hA, hK, hNw⟩ := id C0
  intro H locs ls jcP jkC jj3 jlr l1 l2 l3 hP hD hS hl hw
  refine lv_iload_n hx hb (dt_of tkX8_number_k90 3 rfl) rfl (lv_at hl 3 rfl) ?_
  refine lv_iload_n hx hb (dt_of tkX8_number_k90 4 rfl) rfl (lv_at hl 1 rfl) ?_
  refine lv_iload_n hx hb (dt_of tkX8_number_k90 5 rfl) rfl (lv_at hl 2 rfl) ?_
  obtain ⟨hCc, hPc, hDc, hFc⟩ := va_pick (ws' := []) hP hD hS hA [] (by decide +kernel) rfl
  refine va_calli (va_runSN (As := [.int l3, .int l1, .int l2]) (rest := []) ⟨hx, hb, hml, hown, hts⟩ (ck_X10_within l dC dI cyB cyI cyJ cyP  H.size    l3 l1 l2 hw) ⟨(va_cnB 3 hts gX8_number_X10_within_n79 rfl rfl rfl (nw_15 hNw) (hts _ uw_X8_number_iniRX10) (by decide +kernel) ⟨Nat.le_of_ble_eq_true rfl, Nat.le_of_ble_eq_true rfl⟩), (hts _ uw_X8_number_stX10_within), trivial⟩ ⟨cPc_blind, cPc_pre hPc hK hDc hNw⟩ rfl rfl hl.1 rfl (lv_room (Nat.le_of_ble_eq_true rfl)) (dt_of tkX8_number_k90 6 rfl) ⟨Nat.le_of_ble_eq_true rfl, Nat.le_of_ble_eq_true rfl⟩) hS (fun q _ h => hFc q h) hFc (fun r14 u t H1 locs ht hvm hw hB hz1 hk1 hS => ?_)
  obtain ⟨hP1, hK1, hD1⟩ := hB
  rw [ht] at hP1
  obtain ⟨hP, hD⟩ := va_joinI (wr := (wd00_31 a0 jif jb7 jcP jlr jjY jkC jj3 jif cyB jjA)) (w1 := []) (wn := (wd00_31 a0 jif jb7 jcP jlr jjY jkC jj3 jif cyB jjA)) hP hD [] [0, 1] hCc rfl (by decide +kernel) (by decide +kernel) rfl hk1 hFc hP1 hD1
  generalize H1 = H at hP hS ⊢
  refine lv_if_ne (tgt := 115) hx hb (dt_of tkX8_number_k90 7 rfl) (by decide) (fun c15 => ?_) (fun c15 => ?_)
  · have hw := hw.1 c15
    refine lv_iload_n hx hb (dt_of tkX8_number_k90 13 rfl) rfl (lv_at hl 3 rfl) ?_
    exact ((W.iret (v := l3) hx hb hr (fun t ht hW => ⟨⟨l3, (jcP, jkC, jj3, jlr), rfl, hw, by rw [ht]; exact hP, va_K.moved hW.alike hK, hD⟩, hS.F ht⟩) hS.2.2 (dt_of tkX8_number_k90 14 rfl)))
  · have hw := hw.2 c15
    refine lv_aload_n hx hb (dt_of tkX8_number_k90 8 rfl) rfl (lv_at hl 0 rfl) ?_
    refine lv_iconst (v := 2) hx hb (dt_of tkX8_number_k90 9 rfl) (by decide) ?_
    refine lv_aload_n hx hb (dt_of tkX8_number_k90 10 rfl) rfl (lv_at hl 0 rfl) ?_
    refine va_get (D := (dC, dI)) (ci := 8) (v := .int jlr) (C := RX8) (T := TX8) (N := 7) hx hb hts ui_X8_number_X8 hown hK hP 0 rfl rfl 3 (by decide) (hts _ uw_X8_number_f34) (fun _ h9 => h9) rfl (dt_of tkX8_number_k90 11 rfl) ?_
    obtain ⟨hCc, hPc, hDc, hFc⟩ := va_pick (ws' := (wd00_32 a0 jif jb7 jcP jlr jjY jkC jj3)) hP hD hS hA [0] (by decide +kernel) rfl
    refine va_callv (va_runV (As := [.int 2, .int jlr]) (rest := []) ⟨hx, hb, hml, hown, hts⟩ (ck_X8_blame l dC dI cyB cyI cyJ cyP a0 H.size (.ref jif) (.int jb7) (.int jcP) (.int jlr) (jjY)  jkC jj3 2 jlr hw) (cwV 2 hts gX8_number_X8_blame rfl rfl rfl (by decide +kernel) ⟨Nat.le_of_ble_eq_true rfl, Nat.le_of_ble_eq_true rfl⟩) ⟨cPc_blind, va_recv (q := (RX8, TX8, 7)) hK hPc (ci := 8) (q0 := 0) rfl rfl, cPc_pre hPc hK hDc hNw⟩ rfl rfl hl.1 rfl (lv_room (Nat.le_of_ble_eq_true rfl)) (dt_of tkX8_number_k90 12 rfl) ⟨Nat.le_of_ble_eq_true rfl, Nat.le_of_ble_eq_true rfl⟩) hS (fun q _ h => hFc q h) hFc (fun u t H1 locs ht hvm hw hB hz1 hk1 hS => ?_)
    obtain ⟨x16, x17⟩ := u
    obtain ⟨hP1, hK1, hD1⟩ := hB
    rw [ht] at hP1
    obtain ⟨hP, hD⟩ := va_joinN (wr := (wd00_33 jif cyB jjA)) (w1 := (wd00_32 a0 jif jb7 jcP jlr jjY x16 x17)) (wn := (wd00_31 a0 jif jb7 jcP jlr jjY x16 x17 jif cyB jjA)) hP hD [0] [1] [1, 0] hCc rfl (by decide +kernel) (by decide +kernel) (by decide +kernel) rfl hk1 hFc hP1 hD1
    generalize H1 = H at hP hS ⊢
    refine lv_iload_n hx hb (dt_of tkX8_number_k90 13 rfl) rfl (lv_at hl 3 rfl) ?_
    exact ((W.iret (v := l3) hx hb hr (fun t ht hW => ⟨⟨l3, (jcP, x16, x17, jlr), rfl, hw, by rw [ht]; exact hP, va_K.moved hW.alike hK, hD⟩, hS.F ht⟩) hS.2.2 (dt_of tkX8_number_k90 14 rfl)))
set_option maxHeartbeats 4000000 in
set_option maxRecDepth 100000 in
theorem kl_X8_number_43 {p : Program} {l : Launch} {e : Env} {s : State} {m : MethodId} {args : Array Value} {below : List Frame} {meth : Method} {c : Code} {A : Nat → Prop} (dC : Nat → ClassId) (dI : Nat → Nat → Nat) (cyB cyI cyJ cyP : ClassId) (a0 jif : Nat) (jjY : Value) (jb7 : Int32) (jjA : Nat → Int32) (Q : Int32 → Int32 → Int32 → Int32 → Int32 → Prop)  (C0 : cfx p s m args meth c cX8_number (some .int) wsX8_number RX8 4 A (dC, dI) (kT cyB cyI cyJ cyP)) : ∀ (n : Nat) (H : Heap) (locs : List Loc) (ls : Array Slot) (jcP jkC jj3 jlr l1 l2 l3 : Int32), va_P (dC, dI) vwCl (wd00_31 a0 jif jb7 jcP jlr jjY jkC jj3 jif cyB jjA) H → va_D A (wd00_31 a0 jif jb7 jcP jlr jjY jkC jj3 jif cyB jjA) → va_S A s.heap H locs → lv_has ls 4 [(0, .ref a0), (1, .int l1), (2, .int l2), (3, .int l3)] → wl_X8_number_43 jb7 jjA Q  n jcP jkC jj3 jlr l1 l2 l3 → W p l e (headSpec wsX8_number ({ frames := 1, cells := 0, slots := 0, locals := 32 })).room s m args below meth c H locs 0 0 (MQ below (va_Qi (fun (r : Int32) (u : Int32 × Int32 × Int32 × Int32) => Q r u.1 u.2.1 u.2.2.1 u.2.2.2) (cB (dC, dI) (kT cyB cyI cyJ cyP) A (fun u : Int32 × Int32 × Int32 × Int32 => ((wd00_31 a0 jif jb7 u.1 u.2.2.2 jjY u.2.1 u.2.2.1 jif cyB jjA) : va_W))) A) args s 0 0 A) (F0 m 43 ls []) := by
  obtain ⟨hx, hb, hr, hts, hown, hlocks, hml, hA, hK, hNw⟩ := id C0
  intro n
  induction n with
  | zero => intro H locs ls jcP jkC jj3 jlr l1 l2 l3 hP hD hS hl hw; exact False.elim hw
  | succ n ih =>
    intro H locs ls jcP jkC jj3 jlr l1 l2 l3 hP hD hS hl hw
    refine lv_aload_n hx hb (dt_of tkX8_number_k32 7 rfl) rfl (lv_at hl 0 rfl) ?_
    refine va_get (D := (dC, dI)) (ci := 8) (v := .int jcP) (C := RX8) (T := TX8) (N := 7) hx hb hts ui_X8_number_X8 hown hK hP 0 rfl rfl 2 (by decide) (hts _ uw_X8_number_f31) (fun _ h9 => h9) rfl (dt_of tkX8_number_k32 8 rfl) ?_
    refine lv_aload_n hx hb (dt_of tkX8_number_k32 9 rfl) rfl (lv_at hl 0 rfl) ?_
    refine va_get (D := (dC, dI)) (ci := 8) (v := .int jb7) (C := RX8) (T := TX8) (N := 7) hx hb hts ui_X8_number_X8 hown hK hP 0 rfl rfl 1 (by decide) (hts _ uw_X8_number_f28) (fun _ h9 => h9) rfl (dt_of tkX8_number_k32 10 rfl) ?_
    refine lv_icmp_ge (tgt := 97) hx hb (dt_of tkX8_number_k32 11 rfl) (by decide) (fun c8 => ?_) (fun c8 => ?_)
    · have hw := hw.1 c8
      exact kb_X8_number_97 dC dI cyB cyI cyJ cyP a0 jif jjY jb7 jjA Q  C0 _ _ _ jcP jkC jj3 jlr l1 l2 l3 hP hD hS (lv_sub hl [0, 1, 2, 3] rfl) hw
    · have hw := hw.2 c8
      refine lv_aload_n hx hb (dt_of tkX8_number_k32 12 rfl) rfl (lv_at hl 0 rfl) ?_
      refine lv_aload_n hx hb (dt_of tkX8_number_k32 13 rfl) rfl (lv_at hl 0 rfl) ?_
      refine va_get (D := (dC, dI)) (ci := 8) (v := .int jcP) (C := RX8) (T := TX8) (N := 7) hx hb hts ui_X8_number_X8 hown hK hP 0 rfl rfl 2 (by decide) (hts _ uw_X8_number_f31) (fun _ h9 => h9) rfl (dt_of tkX8_number_k32 14 rfl) ?_
      obtain ⟨hCc, hPc, hDc, hFc⟩ := va_pick (ws' := (wd00_31 a0 jif jb7 jcP jlr jjY jkC jj3 jif cyB jjA)) hP hD hS hA [0, 1] (by decide +kernel) rfl
      refine va_calli (va_runV (As := [.int jcP]) (rest := []) ⟨hx, hb, hml, hown, hts⟩ (ck_X8_digitAt l dC dI cyB cyI cyJ cyP a0 jif H.size (.int jcP) (.int jlr) (jjY) (.int jkC) (.int jj3) jb7 jjA  jcP hw) (cwV 1 hts gX8_number_X8_digitAt rfl rfl rfl (by decide +kernel) ⟨Nat.le_of_ble_eq_true rfl, Nat.le_of_ble_eq_true rfl⟩) ⟨cPc_blind, va_recv (q := (RX8, TX8, 7)) hK hPc (ci := 8) (q0 := 0) rfl rfl, cPc_pre hPc hK hDc hNw⟩ rfl rfl hl.1 rfl (lv_room (Nat.le_of_ble_eq_true rfl)) (dt_of tkX8_number_k32 15 rfl) ⟨Nat.le_of_ble_eq_true rfl, Nat.le_of_ble_eq_true rfl⟩) hS (fun q _ h => hFc q h) hFc (fun r9 u t H1 locs ht hvm hw hB hz1 hk1 hS => ?_)
      obtain ⟨hP1, hK1, hD1⟩ := hB
      rw [ht] at hP1
      obtain ⟨hP, hD⟩ := va_joinI (wr := []) (w1 := (wd00_31 a0 jif jb7 jcP jlr jjY jkC jj3 jif cyB jjA)) (wn := (wd00_31 a0 jif jb7 jcP jlr jjY jkC jj3 jif cyB jjA)) hP hD [0, 1] [] hCc rfl (by decide +kernel) (by decide +kernel) rfl hk1 hFc hP1 hD1
      generalize H1 = H at hP hS ⊢
      refine lv_if_lt (tgt := 97) hx hb (dt_of tkX8_number_k62 0 rfl) (by decide) (fun c10 => ?_) (fun c10 => ?_)
      · have hw := hw.1 c10
        exact kb_X8_number_97 dC dI cyB cyI cyJ cyP a0 jif jjY jb7 jjA Q  C0 _ _ _ jcP jkC jj3 jlr l1 l2 l3 hP hD hS (lv_sub hl [0, 1, 2, 3] rfl) hw
      · have hw := hw.2 c10
        refine lv_ldc (v := 100000) hx hb hown (hts _ uw_X8_number_k78) (dt_of tkX8_number_k62 1 rfl) ?_
        refine lv_iload_n hx hb (dt_of tkX8_number_k62 2 rfl) rfl (lv_at hl 3 rfl) ?_
        refine lv_bipush (v := 10) hx hb (dt_of tkX8_number_k62 3 rfl) (by decide) ?_
        refine lv_imul hx hb (dt_of tkX8_number_k62 4 rfl) ?_
        refine lv_aload_n hx hb (dt_of tkX8_number_k62 5 rfl) rfl (lv_at hl 0 rfl) ?_
        refine lv_aload_n hx hb (dt_of tkX8_number_k62 6 rfl) rfl (lv_at hl 0 rfl) ?_
        refine va_get (D := (dC, dI)) (ci := 8) (v := .int jcP) (C := RX8) (T := TX8) (N := 7) hx hb hts ui_X8_number_X8 hown hK hP 0 rfl rfl 2 (by decide) (hts _ uw_X8_number_f31) (fun _ h9 => h9) rfl (dt_of tkX8_number_k62 7 rfl) ?_
        obtain ⟨hCc, hPc, hDc, hFc⟩ := va_pick (ws' := (wd00_31 a0 jif jb7 jcP jlr jjY jkC jj3 jif cyB jjA)) hP hD hS hA [0, 1] (by decide +kernel) rfl
        refine va_calli (va_runV (As := [.int jcP]) (rest := [.int (l3 * 10), .int 100000]) ⟨hx, hb, hml, hown, hts⟩ (ck_X8_digitAt l dC dI cyB cyI cyJ cyP a0 jif H.size (.int jcP) (.int jlr) (jjY) (.int jkC) (.int jj3) jb7 jjA  jcP hw) (cwV 1 hts gX8_number_X8_digitAt rfl rfl rfl (by decide +kernel) ⟨Nat.le_of_ble_eq_true rfl, Nat.le_of_ble_eq_true rfl⟩) ⟨cPc_blind, va_recv (q := (RX8, TX8, 7)) hK hPc (ci := 8) (q0 := 0) rfl rfl, cPc_pre hPc hK hDc hNw⟩ rfl rfl hl.1 rfl (lv_room (Nat.le_of_ble_eq_true rfl)) (dt_of tkX8_number_k62 8 rfl) ⟨Nat.le_of_ble_eq_true rfl, Nat.le_of_ble_eq_true rfl⟩) hS (fun q _ h => hFc q h) hFc (fun r11 u t H1 locs ht hvm hw hB hz1 hk1 hS => ?_)
        obtain ⟨hP1, hK1, hD1⟩ := hB
        rw [ht] at hP1
        obtain ⟨hP, hD⟩ := va_joinI (wr := []) (w1 := (wd00_31 a0 jif jb7 jcP jlr jjY jkC jj3 jif cyB jjA)) (wn := (wd00_31 a0 jif jb7 jcP jlr jjY jkC jj3 jif cyB jjA)) hP hD [0, 1] [] hCc rfl (by decide +kernel) (by decide +kernel) rfl hk1 hFc hP1 hD1
        generalize H1 = H at hP hS ⊢
        refine lv_iadd hx hb (dt_of tkX8_number_k62 9 rfl) ?_
        refine va_mmin hx hb (by rw [hml]; exact hl.1.symm) hown (hts _ uw_X8_number_m22) (hts _ uw_X8_number_msmin) (hts _ uw_X8_number_inim) (hts _ uw_X8_number_mcmin) (Nat.le_of_ble_eq_true rfl) (Nat.le_of_ble_eq_true rfl) (Nat.le_of_ble_eq_true rfl) (Nat.le_of_ble_eq_true rfl) (dt_of tkX8_number_k62 10 rfl) ?_
        refine lv_topi (fun x12 ex12 => ?_)
        have hw := hw x12 ex12
        refine lv_istore_n (lv' := [(3, .int x12), (0, .ref a0), (1, .int l1), (2, .int l2)]) hx hb (dt_of tkX8_number_k62 11 rfl) rfl hl (by decide) rfl (fun ls hl => ?_)
        refine lv_aload_n hx hb (dt_of tkX8_number_k62 12 rfl) rfl (lv_at hl 1 rfl) ?_
        refine lv_dup hx hb (dt_of tkX8_number_k62 13 rfl) rfl ?_
        refine va_get (D := (dC, dI)) (ci := 8) (v := .int jcP) (C := RX8) (T := TX8) (N := 7) hx hb hts ui_X8_number_X8 hown hK hP 0 rfl rfl 2 (by decide) (hts _ uw_X8_number_f31) (fun _ h9 => h9) rfl (dt_of tkX8_number_k62 14 rfl) ?_
        refine lv_iconst (v := 1) hx hb (dt_of tkX8_number_k62 15 rfl) (by decide) ?_
        refine lv_iadd hx hb (dt_of tkX8_number_k90 0 rfl) ?_
        refine lv_topi (fun x13 ex13 => ?_)
        have hw := hw x13 ex13
        refine va_put (D := (dC, dI)) (ci := 8) (v := .int x13) (ty := .int) (C := RX8) (T := TX8) (N := 7) hx hb hts ui_X8_number_X8 tyX8 tyX8_ok nmX8 hown hK hP hD hS 0 rfl rfl 2 (by decide) (hts _ uw_X8_number_f31) (fun _ h9 => h9) rfl (by decide +kernel) rfl rfl (Nat.le_of_ble_eq_true rfl) (dt_of tkX8_number_k90 1 rfl) (fun H locs hP hD hS => ?_)
        have hP : va_P (dC, dI) vwCl (wd00_31 a0 jif jb7 x13 jlr jjY jkC jj3 jif cyB jjA) H := hP
        have hD : va_D A (wd00_31 a0 jif jb7 x13 jlr jjY jkC jj3 jif cyB jjA) := hD
        refine lv_goto (tgt := 43) hx hb (dt_of tkX8_number_k90 2 rfl) (by decide) ?_
        exact ih _ _ _ x13 jkC jj3 jlr l1 l2 x12 hP hD hS (lv_sub hl [1, 2, 3, 0] rfl) hw
set_option maxHeartbeats 4000000 in
set_option maxRecDepth 100000 in
theorem kb_X8_number_24 {p : Program} {l : Launch} {e : Env} {s : State} {m : MethodId} {args : Array Value} {below : List Frame} {meth : Method} {c : Code} {A : Nat → Prop} (dC : Nat → ClassId) (dI : Nat → Nat → Nat) (cyB cyI cyJ cyP : ClassId) (a0 jif : Nat) (jjY : Value) (jb7 : Int32) (jjA : Nat → Int32) (Q : Int32 → Int32 → Int32 → Int32 → Int32 → Prop)  (C0 : cfx p s m args meth c cX8_number (some .int) wsX8_number RX8 4 A (dC, dI) (kT cyB cyI cyJ cyP)) : ∀ (H : Heap) (locs : List Loc) (ls : Array Slot) (jcP jkC jj3 jlr l1 l2 : Int32), va_P (dC, dI) vwCl (wd00_31 a0 jif jb7 jcP jlr jjY jkC jj3 jif cyB jjA) H → va_D A (wd00_31 a0 jif jb7 jcP jlr jjY jkC jj3 jif cyB jjA) → va_S A s.heap H locs → lv_has ls 4 [(0, .ref a0), (1, .int l1), (2, .int l2)] → wb_X8_number_24 jb7 jjA Q  jcP jkC jj3 jlr l1 l2 → W p l e (headSpec wsX8_number ({ frames := 1, cells := 0, slots := 0, locals := 32 })).room s m args below meth c H locs 0 0 (MQ below (va_Qi (fun (r : Int32) (u : Int32 × Int32 × Int32 × Int32) => Q r u.1 u.2.1 u.2.2.1 u.2.2.2) (cB (dC, dI) (kT cyB cyI cyJ cyP) A (fun u : Int32 × Int32 × Int32 × Int32 => ((wd00_31 a0 jif jb7 u.1 u.2.2.2 jjY u.2.1 u.2.2.1 jif cyB jjA) : va_W))) A) args s 0 0 A) (F0 m 24 ls []) := by
  obtain ⟨hx, hb, hr, hts, hown, hlocks, hml, hA, hK, hNw⟩ := id C0
  intro H locs ls jcP jkC jj3 jlr l1 l2 hP hD hS hl hw
  refine lv_aload_n hx hb (dt_of tkX8_number_k0 12 rfl) rfl (lv_at hl 0 rfl) ?_
  obtain ⟨hCc, hPc, hDc, hFc⟩ := va_pick (ws' := (wd00_32 a0 jif jb7 jcP jlr jjY jkC jj3)) hP hD hS hA [0] (by decide +kernel) rfl
  refine va_calli (va_runV (As := []) (rest := []) ⟨hx, hb, hml, hown, hts⟩ (ck_X8_isFaulty l dC dI cyB cyI cyJ cyP a0 H.size (.ref jif) (.int jb7) (.int jcP) (.int jlr) (jjY) (.int jj3) jkC   hw) (cwV 0 hts gX8_number_X8_isFaulty rfl rfl rfl (by decide +kernel) ⟨Nat.le_of_ble_eq_true rfl, Nat.le_of_ble_eq_true rfl⟩) ⟨cPc_blind, va_recv (q := (RX8, TX8, 7)) hK hPc (ci := 8) (q0 := 0) rfl rfl, cPc_pre hPc hK hDc hNw⟩ rfl rfl hl.1 rfl (lv_room (Nat.le_of_ble_eq_true rfl)) (dt_of tkX8_number_k0 13 rfl) ⟨Nat.le_of_ble_eq_true rfl, Nat.le_of_ble_eq_true rfl⟩) hS (fun q _ h => hFc q h) hFc (fun r6 u t H1 locs ht hvm hw hB hz1 hk1 hS => ?_)
  obtain ⟨hP1, hK1, hD1⟩ := hB
  rw [ht] at hP1
  obtain ⟨hP, hD⟩ := va_joinN (wr := (wd00_33 jif cyB jjA)) (w1 := (wd00_32 a0 jif jb7 jcP jlr jjY jkC jj3)) (wn := (wd00_31 a0 jif jb7 jcP jlr jjY jkC jj3 jif cyB jjA)) hP hD [0] [1] [1, 0] hCc rfl (by decide +kernel) (by decide +kernel) (by decide +kernel) rfl hk1 hFc hP1 hD1
  generalize H1 = H at hP hS ⊢
  refine lv_if_eq (tgt := 33) hx hb (dt_of tkX8_number_k0 14 rfl) (by decide) (fun c7 => ?_) (fun c7 => ?_)
  · have hw := hw.1 c7
    refine lv_aload_n hx hb (dt_of tkX8_number_k32 1 rfl) rfl (lv_at hl 0 rfl) ?_
    refine lv_aload_n hx hb (dt_of tkX8_number_k32 2 rfl) rfl (lv_at hl 0 rfl) ?_
    refine va_get (D := (dC, dI)) (ci := 8) (v := .int jcP) (C := RX8) (T := TX8) (N := 7) hx hb hts ui_X8_number_X8 hown hK hP 0 rfl rfl 2 (by decide) (hts _ uw_X8_number_f31) (fun _ h9 => h9) rfl (dt_of tkX8_number_k32 3 rfl) ?_
    refine va_put (D := (dC, dI)) (ci := 8) (v := .int jcP) (ty := .int) (C := RX8) (T := TX8) (N := 7) hx hb hts ui_X8_number_X8 tyX8 tyX8_ok nmX8 hown hK hP hD hS 0 rfl rfl 3 (by decide) (hts _ uw_X8_number_f34) (fun _ h9 => h9) rfl (by decide +kernel) rfl rfl (Nat.le_of_ble_eq_true rfl) (dt_of tkX8_number_k32 4 rfl) (fun H locs hP hD hS => ?_)
    have hP : va_P (dC, dI) vwCl (wd00_31 a0 jif jb7 jcP jcP jjY jkC jj3 jif cyB jjA) H := hP
    have hD : va_D A (wd00_31 a0 jif jb7 jcP jcP jjY jkC jj3 jif cyB jjA) := hD
    refine lv_iconst (v := 0) hx hb (dt_of tkX8_number_k32 5 rfl) (by decide) ?_
    refine lv_istore_n (lv' := [(3, .int 0), (0, .ref a0), (1, .int l1), (2, .int l2)]) hx hb (dt_of tkX8_number_k32 6 rfl) rfl hl (by decide) rfl (fun ls hl => ?_)
    obtain ⟨n9, hw⟩ := hw
    exact kl_X8_number_43 dC dI cyB cyI cyJ cyP a0 jif jjY jb7 jjA Q  C0 n9 _ _ _ jcP jkC jj3 jcP l1 l2 0 hP hD hS (lv_sub hl [1, 2, 3, 0] rfl) hw
  · have hw := hw.2 c7
    refine lv_iconst (v := 0) hx hb (dt_of tkX8_number_k0 15 rfl) (by decide) ?_
    exact ((W.iret (v := 0) hx hb hr (fun t ht hW => ⟨⟨0, (jcP, jkC, jj3, jlr), rfl, hw, by rw [ht]; exact hP, va_K.moved hW.alike hK, hD⟩, hS.F ht⟩) hS.2.2 (dt_of tkX8_number_k32 0 rfl)))
set_option maxHeartbeats 4000000 in
set_option maxRecDepth 100000 in
theorem ck_X8_number (l : Launch) (dC : Nat → ClassId) (dI : Nat → Nat → Nat) (cyB cyI cyJ cyP : ClassId) (a0 jif sz : Nat) (jjY : Value) (jb7 : Int32) (jjA : Nat → Int32) (jcP jkC jj3 jlr p1 p2 : Int32) {Q : Int32 → Int32 → Int32 → Int32 → Int32 → Prop} (hw : wq_X8_number jb7 jjA jcP jkC jj3 jlr p1 p2 Q) : Met l yX8_number wsX8_number ({ frames := 1, cells := 0, slots := 0, locals := 32 }) (va_Pc [.ref a0, .int p1, .int p2] (cPc (dC, dI) (kT cyB cyI cyJ cyP) (wd00_31 a0 jif jb7 jcP jlr jjY jkC jj3 jif cyB jjA) sz)) (va_Qi (fun (r : Int32) (u : Int32 × Int32 × Int32 × Int32) => Q r u.1 u.2.1 u.2.2.1 u.2.2.2) (cB (dC, dI) (kT cyB cyI cyJ cyP) (va_A (wd00_31 a0 jif jb7 jcP jlr jjY jkC jj3 jif cyB jjA) sz) (fun u : Int32 × Int32 × Int32 × Int32 => ((wd00_31 a0 jif jb7 u.1 u.2.2.2 jjY u.2.1 u.2.2.1 jif cyB jjA) : va_W))) (va_A (wd00_31 a0 jif jb7 jcP jlr jjY jkC jj3 jif cyB jjA) sz)) 0 0 (va_A (wd00_31 a0 jif jb7 jcP jlr jjY jkC jj3 jif cyB jjA) sz) := by
  refine Met.ofW (cc := cX8_number) (maxL := 4) (ret := (some .int)) (by decide) rfl ?_
  intro p e s m args below meth c s₁ B hml hv
  obtain ⟨rfl, hsz, hP, hK, hD0, hNw⟩ := hv
  have hx := B.exec
  have hb := B.bytes
  have hr := B.returns
  have hts := atoms_spec (ws := wsX8_number) B.pre
  have hown : s.vm.findClass RX8 = some m.cls := findClass_of_methodNamed B.named
  have hlocks := B.notSynchronized
  subst hsz
  have hD := hD0.self (sz := s.heap.size)
  generalize hAe : va_A (wd00_31 a0 jif jb7 jcP jlr jjY jkC jj3 jif cyB jjA) s.heap.size = A at hD ⊢
  have hA : ∀ q : Nat, s.heap.size ≤ q → A q := fun q h => by rw [← hAe]; exact Or.inr h
  have hS : va_S A s.heap s.heap [] := va_S.rf
  have hP : va_P (dC, dI) vwCl (wd00_31 a0 jif jb7 jcP jlr jjY jkC jj3 jif cyB jjA) s.heap := hP
  have hl := lv_entry ([.ref a0, .int p1, .int p2]) (n := 4) (Nat.le_of_ble_eq_true rfl)
  rw [lg_entry_eq]
  generalize (lg_sl ([.ref a0, .int p1, .int p2]) ++ List.replicate (4 - (lg_sl ([.ref a0, .int p1, .int p2])).length) Slot.unset).toArray = ls at hl ⊢
  have hl : lv_has ls 4 [(0, .ref a0), (1, .int p1), (2, .int p2)] := hl
  have C0 : cfx p s m _ meth c cX8_number (some .int) wsX8_number RX8 4 A (dC, dI) (kT cyB cyI cyJ cyP) := ⟨hx, hb, hr, hts, hown, hlocks, hml, hA, hK, hNw⟩
  clear hAe
  obtain ⟨H, hH⟩ : ∃ H, H = s.heap := ⟨_, rfl⟩
  rw [← hH] at hP ⊢
  have hS : va_S A s.heap H [] := by rw [hH]; exact va_S.rf
  have hS := hS
  refine lv_aload_n hx hb (dt_of tkX8_number_k0 0 rfl) rfl (lv_at hl 0 rfl) ?_
  obtain ⟨hCc, hPc, hDc, hFc⟩ := va_pick (ws' := (wd00_31 a0 jif jb7 jcP jlr jjY jkC jj3 jif cyB jjA)) hP hD hS hA [0, 1] (by decide +kernel) rfl
  refine va_callv (va_runV (As := []) (rest := []) ⟨hx, hb, hml, hown, hts⟩ (ck_X8_skipBlanks l dC dI cyB cyI cyJ cyP a0 jif H.size (.int jlr) (jjY) (.int jkC) (.int jj3) jb7 jjA jcP  hw) (cwV 0 hts gX8_number_X8_skipBlanks rfl rfl rfl (by decide +kernel) ⟨Nat.le_of_ble_eq_true rfl, Nat.le_of_ble_eq_true rfl⟩) ⟨cPc_blind, va_recv (q := (RX8, TX8, 7)) hK hPc (ci := 8) (q0 := 0) rfl rfl, cPc_pre hPc hK hDc hNw⟩ rfl rfl hl.1 rfl (lv_room (Nat.le_of_ble_eq_true rfl)) (dt_of tkX8_number_k0 1 rfl) ⟨Nat.le_of_ble_eq_true rfl, Nat.le_of_ble_eq_true rfl⟩) hS (fun q _ h => hFc q h) hFc (fun u t H1 locs ht hvm hw hB hz1 hk1 hS => ?_)
  obtain ⟨x1, rfl⟩ : ∃ z, z = u := ⟨_, rfl⟩
  obtain ⟨hP1, hK1, hD1⟩ := hB
  rw [ht] at hP1
  obtain ⟨hP, hD⟩ := va_joinI (wr := []) (w1 := (wd00_31 a0 jif jb7 x1 jlr jjY jkC jj3 jif cyB jjA)) (wn := (wd00_31 a0 jif jb7 x1 jlr jjY jkC jj3 jif cyB jjA)) hP hD [0, 1] [] hCc rfl (by decide +kernel) (by decide +kernel) rfl hk1 hFc hP1 hD1
  generalize H1 = H at hP hS ⊢
  refine lv_aload_n hx hb (dt_of tkX8_number_k0 2 rfl) rfl (lv_at hl 0 rfl) ?_
  refine lv_aload_n hx hb (dt_of tkX8_number_k0 3 rfl) rfl (lv_at hl 0 rfl) ?_
  refine va_get (D := (dC, dI)) (ci := 8) (v := .int x1) (C := RX8) (T := TX8) (N := 7) hx hb hts ui_X8_number_X8 hown hK hP 0 rfl rfl 2 (by decide) (hts _ uw_X8_number_f31) (fun _ h9 => h9) rfl (dt_of tkX8_number_k0 4 rfl) ?_
  obtain ⟨hCc, hPc, hDc, hFc⟩ := va_pick (ws' := (wd00_31 a0 jif jb7 x1 jlr jjY jkC jj3 jif cyB jjA)) hP hD hS hA [0, 1] (by decide +kernel) rfl
  refine va_calli (va_runV (As := [.int x1]) (rest := []) ⟨hx, hb, hml, hown, hts⟩ (ck_X8_digitAt l dC dI cyB cyI cyJ cyP a0 jif H.size (.int x1) (.int jlr) (jjY) (.int jkC) (.int jj3) jb7 jjA  x1 hw) (cwV 1 hts gX8_number_X8_digitAt rfl rfl rfl (by decide +kernel) ⟨Nat.le_of_ble_eq_true rfl, Nat.le_of_ble_eq_true rfl⟩) ⟨cPc_blind, va_recv (q := (RX8, TX8, 7)) hK hPc (ci := 8) (q0 := 0) rfl rfl, cPc_pre hPc hK hDc hNw⟩ rfl rfl hl.1 rfl (lv_room (Nat.le_of_ble_eq_true rfl)) (dt_of tkX8_number_k0 5 rfl) ⟨Nat.le_of_ble_eq_true rfl, Nat.le_of_ble_eq_true rfl⟩) hS (fun q _ h => hFc q h) hFc (fun r2 u t H1 locs ht hvm hw hB hz1 hk1 hS => ?_)
  obtain ⟨hP1, hK1, hD1⟩ := hB
  rw [ht] at hP1
  obtain ⟨hP, hD⟩ := va_joinI (wr := []) (w1 := (wd00_31 a0 jif jb7 x1 jlr jjY jkC jj3 jif cyB jjA)) (wn := (wd00_31 a0 jif jb7 x1 jlr jjY jkC jj3 jif cyB jjA)) hP hD [0, 1] [] hCc rfl (by decide +kernel) (by decide +kernel) rfl hk1 hFc hP1 hD1
  generalize H1 = H at hP hS ⊢
  refine lv_if_ge (tgt := 24) hx hb (dt_of tkX8_number_k0 6 rfl) (by decide) (fun c3 => ?_) (fun c3 => ?_)
  · have hw := hw.1 c3
    exact kb_X8_number_24 dC dI cyB cyI cyJ cyP a0 jif jjY jb7 jjA Q  C0 _ _ _ x1 jkC jj3 jlr p1 p2 hP hD hS (lv_sub hl [0, 1, 2] rfl) hw
  · have hw := hw.2 c3
    refine lv_aload_n hx hb (dt_of tkX8_number_k0 7 rfl) rfl (lv_at hl 0 rfl) ?_
    refine lv_iconst (v := 1) hx hb (dt_of tkX8_number_k0 8 rfl) (by decide) ?_
    refine lv_aload_n hx hb (dt_of tkX8_number_k0 9 rfl) rfl (lv_at hl 0 rfl) ?_
    refine va_get (D := (dC, dI)) (ci := 8) (v := .int x1) (C := RX8) (T := TX8) (N := 7) hx hb hts ui_X8_number_X8 hown hK hP 0 rfl rfl 2 (by decide) (hts _ uw_X8_number_f31) (fun _ h9 => h9) rfl (dt_of tkX8_number_k0 10 rfl) ?_
    obtain ⟨hCc, hPc, hDc, hFc⟩ := va_pick (ws' := (wd00_32 a0 jif jb7 x1 jlr jjY jkC jj3)) hP hD hS hA [0] (by decide +kernel) rfl
    refine va_callv (va_runV (As := [.int 1, .int x1]) (rest := []) ⟨hx, hb, hml, hown, hts⟩ (ck_X8_blame l dC dI cyB cyI cyJ cyP a0 H.size (.ref jif) (.int jb7) (.int x1) (.int jlr) (jjY)  jkC jj3 1 x1 hw) (cwV 2 hts gX8_number_X8_blame rfl rfl rfl (by decide +kernel) ⟨Nat.le_of_ble_eq_true rfl, Nat.le_of_ble_eq_true rfl⟩) ⟨cPc_blind, va_recv (q := (RX8, TX8, 7)) hK hPc (ci := 8) (q0 := 0) rfl rfl, cPc_pre hPc hK hDc hNw⟩ rfl rfl hl.1 rfl (lv_room (Nat.le_of_ble_eq_true rfl)) (dt_of tkX8_number_k0 11 rfl) ⟨Nat.le_of_ble_eq_true rfl, Nat.le_of_ble_eq_true rfl⟩) hS (fun q _ h => hFc q h) hFc (fun u t H1 locs ht hvm hw hB hz1 hk1 hS => ?_)
    obtain ⟨x4, x5⟩ := u
    obtain ⟨hP1, hK1, hD1⟩ := hB
    rw [ht] at hP1
    obtain ⟨hP, hD⟩ := va_joinN (wr := (wd00_33 jif cyB jjA)) (w1 := (wd00_32 a0 jif jb7 x1 jlr jjY x4 x5)) (wn := (wd00_31 a0 jif jb7 x1 jlr jjY x4 x5 jif cyB jjA)) hP hD [0] [1] [1, 0] hCc rfl (by decide +kernel) (by decide +kernel) (by decide +kernel) rfl hk1 hFc hP1 hD1
    generalize H1 = H at hP hS ⊢
    exact kb_X8_number_24 dC dI cyB cyI cyJ cyP a0 jif jjY jb7 jjA Q  C0 _ _ _ x1 x4 x5 jlr p1 p2 hP hD hS (lv_sub hl [0, 1, 2] rfl) hw
theorem ui_X0_tells_X0 : ∀ w ∈ u_ws RX0 TX0 2, w ∈ wsX0_tells := uiM mbX0_tells euX0 (by decide +kernel)
theorem uw_X0_tells_f9 : (.fieldLink RX0 9 "MarchHares$Book" "seen" "[I" : Cond) ∈ wsX0_tells := mbX0_tells 257 (by decide +kernel)
set_option maxHeartbeats 4000000 in
set_option maxRecDepth 100000 in
theorem ck_X0_tells (l : Launch) (dC : Nat → ClassId) (dI : Nat → Nat → Nat) (cyB cyI cyJ cyP : ClassId) (a0 jjj sz : Nat) (jmb : Value) (jkG : Nat → Int32)  (p1 : Int32) {Q : Int32 → Prop} (hw : wq_X0_tells jkG  p1 Q) : Met l yX0_tells wsX0_tells ({ frames := 0, cells := 0, slots := 0, locals := 0 }) (va_Pc [.ref a0, .int p1] (cPc (dC, dI) (kT cyB cyI cyJ cyP) (wd00_34 a0 jjj jmb jjj cyI jkG) sz)) (va_Qi (fun (r : Int32) (_ : Unit) => Q r ) (cB (dC, dI) (kT cyB cyI cyJ cyP) (va_A (wd00_34 a0 jjj jmb jjj cyI jkG) sz) (fun u : Unit => ((wd00_34 a0 jjj jmb jjj cyI jkG) : va_W))) (va_A (wd00_34 a0 jjj jmb jjj cyI jkG) sz)) 0 0 (va_A (wd00_34 a0 jjj jmb jjj cyI jkG) sz) := by
  refine Met.ofW (cc := cX0_tells) (maxL := 2) (ret := (some .boolean)) (by decide) rfl ?_
  intro p e s m args below meth c s₁ B hml hv
  obtain ⟨rfl, hsz, hP, hK, hD0, hNw⟩ := hv
  have hx := B.exec
  have hb := B.bytes
  have hr := B.returns
  have hts := atoms_spec (ws := wsX0_tells) B.pre
  have hown : s.vm.findClass RX0 = some m.cls := findClass_of_methodNamed B.named
  have hlocks := B.notSynchronized
  subst hsz
  have hD := hD0.self (sz := s.heap.size)
  generalize hAe : va_A (wd00_34 a0 jjj jmb jjj cyI jkG) s.heap.size = A at hD ⊢
  have hA : ∀ q : Nat, s.heap.size ≤ q → A q := fun q h => by rw [← hAe]; exact Or.inr h
  have hS : va_S A s.heap s.heap [] := va_S.rf
  have hP : va_P (dC, dI) vwCl (wd00_34 a0 jjj jmb jjj cyI jkG) s.heap := hP
  have hl := lv_entry ([.ref a0, .int p1]) (n := 2) (Nat.le_of_ble_eq_true rfl)
  rw [lg_entry_eq]
  generalize (lg_sl ([.ref a0, .int p1]) ++ List.replicate (2 - (lg_sl ([.ref a0, .int p1])).length) Slot.unset).toArray = ls at hl ⊢
  have hl : lv_has ls 2 [(0, .ref a0), (1, .int p1)] := hl
  have C0 : cfx p s m _ meth c cX0_tells (some .boolean) wsX0_tells RX0 2 A (dC, dI) (kT cyB cyI cyJ cyP) := ⟨hx, hb, hr, hts, hown, hlocks, hml, hA, hK, hNw⟩
  clear hAe
  obtain ⟨H, hH⟩ : ∃ H, H = s.heap := ⟨_, rfl⟩
  rw [← hH] at hP ⊢
  have hS : va_S A s.heap H [] := by rw [hH]; exact va_S.rf
  have hS := hS
  refine lv_aload_n hx hb (dt_of tkX0_tells_k0 0 rfl) rfl (lv_at hl 0 rfl) ?_
  refine va_get (D := (dC, dI)) (ci := 0) (v := .ref jjj) (C := RX0) (T := TX0) (N := 2) hx hb hts ui_X0_tells_X0 hown hK hP 0 rfl rfl 0 (by decide) (hts _ uw_X0_tells_f9) (fun _ h9 => h9) rfl (dt_of tkX0_tells_k0 1 rfl) ?_
  refine lv_iload_n hx hb (dt_of tkX0_tells_k0 2 rfl) rfl (lv_at hl 1 rfl) ?_
  obtain ⟨hi9, hw⟩ := hw
  refine va_iald hx hb hK hP 1 1 rfl rfl hi9 (dt_of tkX0_tells_k0 3 rfl) ?_
  refine lv_topi (fun x1 ex1 => ?_)
  have hw := hw x1 ex1
  refine lv_iconst (v := (-1)) hx hb (dt_of tkX0_tells_k0 4 rfl) (by decide) ?_
  refine lv_icmp_eq (tgt := 14) hx hb (dt_of tkX0_tells_k0 5 rfl) (by decide) (fun c2 => ?_) (fun c2 => ?_)
  · have hw := hw.1 c2
    refine lv_iconst (v := 0) hx hb (dt_of tkX0_tells_k0 8 rfl) (by decide) ?_
    exact ((W.zret (v := 0) hx hb hr rfl (fun t ht hW => ⟨⟨0, (), rfl, hw, by rw [ht]; exact hP, va_K.moved hW.alike hK, hD⟩, hS.F ht⟩) hS.2.2 (dt_of tkX0_tells_k0 9 rfl)))
  · have hw := hw.2 c2
    refine lv_iconst (v := 1) hx hb (dt_of tkX0_tells_k0 6 rfl) (by decide) ?_
    refine lv_goto (tgt := 15) hx hb (dt_of tkX0_tells_k0 7 rfl) (by decide) ?_
    exact ((W.zret (v := 1) hx hb hr rfl (fun t ht hW => ⟨⟨1, (), rfl, hw, by rw [ht]; exact hP, va_K.moved hW.alike hK, hD⟩, hS.F ht⟩) hS.2.2 (dt_of tkX0_tells_k0 9 rfl)))
theorem ui_X8_blameToken_X8 : ∀ w ∈ u_ws RX8 TX8 7, w ∈ wsX8_blameToken := uiM mbX8_blameToken euX8 (by decide +kernel)
theorem uw_X8_blameToken_f34 : (.fieldLink RX8 34 "MarchHares$Tape" "token" "I" : Cond) ∈ wsX8_blameToken := mbX8_blameToken 714 (by decide +kernel)
set_option maxHeartbeats 4000000 in
set_option maxRecDepth 100000 in
theorem ck_X8_blameToken (l : Launch) (dC : Nat → ClassId) (dI : Nat → Nat → Nat) (cyB cyI cyJ cyP : ClassId) (a0 sz : Nat) (jn7 jjf jby jjY : Value) (jlr jkC jj3 p1 : Int32) {Q : Int32 → Int32 → Prop} (hw : wq_X8_blameToken jlr jkC jj3 p1 Q) : Met l yX8_blameToken wsX8_blameToken ({ frames := 1, cells := 0, slots := 0, locals := 22 }) (va_Pc [.ref a0, .int p1] (cPc (dC, dI) (kT cyB cyI cyJ cyP) (wd00_35 a0 jn7 jjf jby jlr jjY jkC jj3) sz)) (va_Qv (fun (u : Int32 × Int32) => Q u.1 u.2) (cB (dC, dI) (kT cyB cyI cyJ cyP) (va_A (wd00_35 a0 jn7 jjf jby jlr jjY jkC jj3) sz) (fun u : Int32 × Int32 => ((wd00_35 a0 jn7 jjf jby jlr jjY u.1 u.2) : va_W))) (va_A (wd00_35 a0 jn7 jjf jby jlr jjY jkC jj3) sz)) 0 0 (va_A (wd00_35 a0 jn7 jjf jby jlr jjY jkC jj3) sz) := by
  refine Met.ofW (cc := cX8_blameToken) (maxL := 2) (ret := none) (by decide) rfl ?_
  intro p e s m args below meth c s₁ B hml hv
  obtain ⟨rfl, hsz, hP, hK, hD0, hNw⟩ := hv
  have hx := B.exec
  have hb := B.bytes
  have hr := B.returns
  have hts := atoms_spec (ws := wsX8_blameToken) B.pre
  have hown : s.vm.findClass RX8 = some m.cls := findClass_of_methodNamed B.named
  have hlocks := B.notSynchronized
  subst hsz
  have hD := hD0.self (sz := s.heap.size)
  generalize hAe : va_A (wd00_35 a0 jn7 jjf jby jlr jjY jkC jj3) s.heap.size = A at hD ⊢
  have hA : ∀ q : Nat, s.heap.size ≤ q → A q := fun q h => by rw [← hAe]; exact Or.inr h
  have hS : va_S A s.heap s.heap [] := va_S.rf
  have hP : va_P (dC, dI) vwCl (wd00_35 a0 jn7 jjf jby jlr jjY jkC jj3) s.heap := hP
  have hl := lv_entry ([.ref a0, .int p1]) (n := 2) (Nat.le_of_ble_eq_true rfl)
  rw [lg_entry_eq]
  generalize (lg_sl ([.ref a0, .int p1]) ++ List.replicate (2 - (lg_sl ([.ref a0, .int p1])).length) Slot.unset).toArray = ls at hl ⊢
  have hl : lv_has ls 2 [(0, .ref a0), (1, .int p1)] := hl
  have C0 : cfx p s m _ meth c cX8_blameToken none wsX8_blameToken RX8 2 A (dC, dI) (kT cyB cyI cyJ cyP) := ⟨hx, hb, hr, hts, hown, hlocks, hml, hA, hK, hNw⟩
  clear hAe
  obtain ⟨H, hH⟩ : ∃ H, H = s.heap := ⟨_, rfl⟩
  rw [← hH] at hP ⊢
  have hS : va_S A s.heap H [] := by rw [hH]; exact va_S.rf
  have hS := hS
  refine lv_aload_n hx hb (dt_of tkX8_blameToken_k0 0 rfl) rfl (lv_at hl 0 rfl) ?_
  refine lv_iload_n hx hb (dt_of tkX8_blameToken_k0 1 rfl) rfl (lv_at hl 1 rfl) ?_
  refine lv_aload_n hx hb (dt_of tkX8_blameToken_k0 2 rfl) rfl (lv_at hl 0 rfl) ?_
  refine va_get (D := (dC, dI)) (ci := 8) (v := .int jlr) (C := RX8) (T := TX8) (N := 7) hx hb hts ui_X8_blameToken_X8 hown hK hP 0 rfl rfl 3 (by decide) (hts _ uw_X8_blameToken_f34) (fun _ h9 => h9) rfl (dt_of tkX8_blameToken_k0 3 rfl) ?_
  obtain ⟨hCc, hPc, hDc, hFc⟩ := va_pick (ws' := (wd00_35 a0 jn7 jjf jby jlr jjY jkC jj3)) hP hD hS hA [0] (by decide +kernel) rfl
  refine va_callv (va_runV (As := [.int p1, .int jlr]) (rest := []) ⟨hx, hb, hml, hown, hts⟩ (ck_X8_blame l dC dI cyB cyI cyJ cyP a0 H.size (jn7) (jjf) (jby) (.int jlr) (jjY)  jkC jj3 p1 jlr hw) (cwV 2 hts gX8_blameToken_X8_blame rfl rfl rfl (by decide +kernel) ⟨Nat.le_of_ble_eq_true rfl, Nat.le_of_ble_eq_true rfl⟩) ⟨cPc_blind, va_recv (q := (RX8, TX8, 7)) hK hPc (ci := 8) (q0 := 0) rfl rfl, cPc_pre hPc hK hDc hNw⟩ rfl rfl hl.1 rfl (lv_room (Nat.le_of_ble_eq_true rfl)) (dt_of tkX8_blameToken_k0 4 rfl) ⟨Nat.le_of_ble_eq_true rfl, Nat.le_of_ble_eq_true rfl⟩) hS (fun q _ h => hFc q h) hFc (fun u t H1 locs ht hvm hw hB hz1 hk1 hS => ?_)
  obtain ⟨x1, x2⟩ := u
  obtain ⟨hP1, hK1, hD1⟩ := hB
  rw [ht] at hP1
  obtain ⟨hP, hD⟩ := va_joinI (wr := []) (w1 := (wd00_35 a0 jn7 jjf jby jlr jjY x1 x2)) (wn := (wd00_35 a0 jn7 jjf jby jlr jjY x1 x2)) hP hD [0] [] hCc rfl (by decide +kernel) (by decide +kernel) rfl hk1 hFc hP1 hD1
  generalize H1 = H at hP hS ⊢
  exact ((W.vret hx hb hr (fun t ht hW => ⟨⟨(x1, x2), rfl, hw, by rw [ht]; exact hP, va_K.moved hW.alike hK, hD⟩, hS.F ht⟩) hS.2.2 (dt_of tkX8_blameToken_k0 5 rfl)))
theorem ui_X8_takes_X8 : ∀ w ∈ u_ws RX8 TX8 7, w ∈ wsX8_takes := uiM mbX8_takes euX8 (by decide +kernel)
theorem uw_X8_takes_f11 : (.fieldLink RX8 11 "MarchHares$Tape" "bytes" "[B" : Cond) ∈ wsX8_takes := mbX8_takes 142 (by decide +kernel)
theorem uw_X8_takes_f28 : (.fieldLink RX8 28 "MarchHares$Tape" "length" "I" : Cond) ∈ wsX8_takes := mbX8_takes 712 (by decide +kernel)
theorem uw_X8_takes_f31 : (.fieldLink RX8 31 "MarchHares$Tape" "at" "I" : Cond) ∈ wsX8_takes := mbX8_takes 713 (by decide +kernel)
theorem uw_X8_takes_f34 : (.fieldLink RX8 34 "MarchHares$Tape" "token" "I" : Cond) ∈ wsX8_takes := mbX8_takes 714 (by decide +kernel)
set_option maxHeartbeats 4000000 in
set_option maxRecDepth 100000 in
theorem ck_X8_takes (l : Launch) (dC : Nat → ClassId) (dI : Nat → Nat → Nat) (cyB cyI cyJ cyP : ClassId) (a0 jif sz : Nat) (jjY jkr : Value) (jb7 jkC : Int32) (jjA : Nat → Int32) (jcP jlr p1 : Int32) {Q : Int32 → Int32 → Int32 → Prop} (hw : wq_X8_takes jb7 jkC jjA jcP jlr p1 Q) : Met l yX8_takes wsX8_takes ({ frames := 1, cells := 0, slots := 0, locals := 20 }) (va_Pc [.ref a0, .int p1] (cPc (dC, dI) (kT cyB cyI cyJ cyP) (wd00_36 a0 jif jb7 jcP jlr jjY jkC jkr jif cyB jjA) sz)) (va_Qi (fun (r : Int32) (u : Int32 × Int32) => Q r u.1 u.2) (cB (dC, dI) (kT cyB cyI cyJ cyP) (va_A (wd00_36 a0 jif jb7 jcP jlr jjY jkC jkr jif cyB jjA) sz) (fun u : Int32 × Int32 => ((wd00_36 a0 jif jb7 u.1 u.2 jjY jkC jkr jif cyB jjA) : va_W))) (va_A (wd00_36 a0 jif jb7 jcP jlr jjY jkC jkr jif cyB jjA) sz)) 0 0 (va_A (wd00_36 a0 jif jb7 jcP jlr jjY jkC jkr jif cyB jjA) sz) := by
  refine Met.ofW (cc := cX8_takes) (maxL := 2) (ret := (some .boolean)) (by decide) rfl ?_
  intro p e s m args below meth c s₁ B hml hv
  obtain ⟨rfl, hsz, hP, hK, hD0, hNw⟩ := hv
  have hx := B.exec
  have hb := B.bytes
  have hr := B.returns
  have hts := atoms_spec (ws := wsX8_takes) B.pre
  have hown : s.vm.findClass RX8 = some m.cls := findClass_of_methodNamed B.named
  have hlocks := B.notSynchronized
  subst hsz
  have hD := hD0.self (sz := s.heap.size)
  generalize hAe : va_A (wd00_36 a0 jif jb7 jcP jlr jjY jkC jkr jif cyB jjA) s.heap.size = A at hD ⊢
  have hA : ∀ q : Nat, s.heap.size ≤ q → A q := fun q h => by rw [← hAe]; exact Or.inr h
  have hS : va_S A s.heap s.heap [] := va_S.rf
  have hP : va_P (dC, dI) vwCl (wd00_36 a0 jif jb7 jcP jlr jjY jkC jkr jif cyB jjA) s.heap := hP
  have hl := lv_entry ([.ref a0, .int p1]) (n := 2) (Nat.le_of_ble_eq_true rfl)
  rw [lg_entry_eq]
  generalize (lg_sl ([.ref a0, .int p1]) ++ List.replicate (2 - (lg_sl ([.ref a0, .int p1])).length) Slot.unset).toArray = ls at hl ⊢
  have hl : lv_has ls 2 [(0, .ref a0), (1, .int p1)] := hl
  have C0 : cfx p s m _ meth c cX8_takes (some .boolean) wsX8_takes RX8 2 A (dC, dI) (kT cyB cyI cyJ cyP) := ⟨hx, hb, hr, hts, hown, hlocks, hml, hA, hK, hNw⟩
  clear hAe
  obtain ⟨H, hH⟩ : ∃ H, H = s.heap := ⟨_, rfl⟩
  rw [← hH] at hP ⊢
  have hS : va_S A s.heap H [] := by rw [hH]; exact va_S.rf
  have hS := hS
  refine lv_aload_n hx hb (dt_of tkX8_takes_k0 0 rfl) rfl (lv_at hl 0 rfl) ?_
  obtain ⟨hCc, hPc, hDc, hFc⟩ := va_pick (ws' := (wd00_36 a0 jif jb7 jcP jlr jjY jkC jkr jif cyB jjA)) hP hD hS hA [0, 1] (by decide +kernel) rfl
  refine va_callv (va_runV (As := []) (rest := []) ⟨hx, hb, hml, hown, hts⟩ (ck_X8_skipBlanks l dC dI cyB cyI cyJ cyP a0 jif H.size (.int jlr) (jjY) (.int jkC) (jkr) jb7 jjA jcP  hw) (cwV 0 hts gX8_takes_X8_skipBlanks rfl rfl rfl (by decide +kernel) ⟨Nat.le_of_ble_eq_true rfl, Nat.le_of_ble_eq_true rfl⟩) ⟨cPc_blind, va_recv (q := (RX8, TX8, 7)) hK hPc (ci := 8) (q0 := 0) rfl rfl, cPc_pre hPc hK hDc hNw⟩ rfl rfl hl.1 rfl (lv_room (Nat.le_of_ble_eq_true rfl)) (dt_of tkX8_takes_k0 1 rfl) ⟨Nat.le_of_ble_eq_true rfl, Nat.le_of_ble_eq_true rfl⟩) hS (fun q _ h => hFc q h) hFc (fun u t H1 locs ht hvm hw hB hz1 hk1 hS => ?_)
  obtain ⟨x1, rfl⟩ : ∃ z, z = u := ⟨_, rfl⟩
  obtain ⟨hP1, hK1, hD1⟩ := hB
  rw [ht] at hP1
  obtain ⟨hP, hD⟩ := va_joinI (wr := []) (w1 := (wd00_36 a0 jif jb7 x1 jlr jjY jkC jkr jif cyB jjA)) (wn := (wd00_36 a0 jif jb7 x1 jlr jjY jkC jkr jif cyB jjA)) hP hD [0, 1] [] hCc rfl (by decide +kernel) (by decide +kernel) rfl hk1 hFc hP1 hD1
  generalize H1 = H at hP hS ⊢
  refine lv_aload_n hx hb (dt_of tkX8_takes_k0 2 rfl) rfl (lv_at hl 0 rfl) ?_
  obtain ⟨hCc, hPc, hDc, hFc⟩ := va_pick (ws' := (wd00_37 a0 jif jb7 x1 jlr jjY jkC jkr)) hP hD hS hA [0] (by decide +kernel) rfl
  refine va_calli (va_runV (As := []) (rest := []) ⟨hx, hb, hml, hown, hts⟩ (ck_X8_isFaulty l dC dI cyB cyI cyJ cyP a0 H.size (.ref jif) (.int jb7) (.int x1) (.int jlr) (jjY) (jkr) jkC   hw) (cwV 0 hts gX8_takes_X8_isFaulty rfl rfl rfl (by decide +kernel) ⟨Nat.le_of_ble_eq_true rfl, Nat.le_of_ble_eq_true rfl⟩) ⟨cPc_blind, va_recv (q := (RX8, TX8, 7)) hK hPc (ci := 8) (q0 := 0) rfl rfl, cPc_pre hPc hK hDc hNw⟩ rfl rfl hl.1 rfl (lv_room (Nat.le_of_ble_eq_true rfl)) (dt_of tkX8_takes_k0 3 rfl) ⟨Nat.le_of_ble_eq_true rfl, Nat.le_of_ble_eq_true rfl⟩) hS (fun q _ h => hFc q h) hFc (fun r2 u t H1 locs ht hvm hw hB hz1 hk1 hS => ?_)
  obtain ⟨hP1, hK1, hD1⟩ := hB
  rw [ht] at hP1
  obtain ⟨hP, hD⟩ := va_joinN (wr := (wd00_33 jif cyB jjA)) (w1 := (wd00_37 a0 jif jb7 x1 jlr jjY jkC jkr)) (wn := (wd00_36 a0 jif jb7 x1 jlr jjY jkC jkr jif cyB jjA)) hP hD [0] [1] [1, 0] hCc rfl (by decide +kernel) (by decide +kernel) (by decide +kernel) rfl hk1 hFc hP1 hD1
  generalize H1 = H at hP hS ⊢
  refine lv_if_ne (tgt := 35) hx hb (dt_of tkX8_takes_k0 4 rfl) (by decide) (fun c3 => ?_) (fun c3 => ?_)
  · have hw := hw.1 c3
    refine lv_iconst (v := 0) hx hb (dt_of tkX8_takes_k32 1 rfl) (by decide) ?_
    exact ((W.zret (v := 0) hx hb hr rfl (fun t ht hW => ⟨⟨0, (x1, jlr), rfl, hw, by rw [ht]; exact hP, va_K.moved hW.alike hK, hD⟩, hS.F ht⟩) hS.2.2 (dt_of tkX8_takes_k32 2 rfl)))
  · have hw := hw.2 c3
    refine lv_aload_n hx hb (dt_of tkX8_takes_k0 5 rfl) rfl (lv_at hl 0 rfl) ?_
    refine va_get (D := (dC, dI)) (ci := 8) (v := .int x1) (C := RX8) (T := TX8) (N := 7) hx hb hts ui_X8_takes_X8 hown hK hP 0 rfl rfl 2 (by decide) (hts _ uw_X8_takes_f31) (fun _ h9 => h9) rfl (dt_of tkX8_takes_k0 6 rfl) ?_
    refine lv_aload_n hx hb (dt_of tkX8_takes_k0 7 rfl) rfl (lv_at hl 0 rfl) ?_
    refine va_get (D := (dC, dI)) (ci := 8) (v := .int jb7) (C := RX8) (T := TX8) (N := 7) hx hb hts ui_X8_takes_X8 hown hK hP 0 rfl rfl 1 (by decide) (hts _ uw_X8_takes_f28) (fun _ h9 => h9) rfl (dt_of tkX8_takes_k0 8 rfl) ?_
    refine lv_icmp_ge (tgt := 35) hx hb (dt_of tkX8_takes_k0 9 rfl) (by decide) (fun c4 => ?_) (fun c4 => ?_)
    · have hw := hw.1 c4
      refine lv_iconst (v := 0) hx hb (dt_of tkX8_takes_k32 1 rfl) (by decide) ?_
      exact ((W.zret (v := 0) hx hb hr rfl (fun t ht hW => ⟨⟨0, (x1, jlr), rfl, hw, by rw [ht]; exact hP, va_K.moved hW.alike hK, hD⟩, hS.F ht⟩) hS.2.2 (dt_of tkX8_takes_k32 2 rfl)))
    · have hw := hw.2 c4
      refine lv_aload_n hx hb (dt_of tkX8_takes_k0 10 rfl) rfl (lv_at hl 0 rfl) ?_
      refine va_get (D := (dC, dI)) (ci := 8) (v := .ref jif) (C := RX8) (T := TX8) (N := 7) hx hb hts ui_X8_takes_X8 hown hK hP 0 rfl rfl 0 (by decide) (hts _ uw_X8_takes_f11) (fun _ h9 => h9) rfl (dt_of tkX8_takes_k0 11 rfl) ?_
      refine lv_aload_n hx hb (dt_of tkX8_takes_k0 12 rfl) rfl (lv_at hl 0 rfl) ?_
      refine va_get (D := (dC, dI)) (ci := 8) (v := .int x1) (C := RX8) (T := TX8) (N := 7) hx hb hts ui_X8_takes_X8 hown hK hP 0 rfl rfl 2 (by decide) (hts _ uw_X8_takes_f31) (fun _ h9 => h9) rfl (dt_of tkX8_takes_k0 13 rfl) ?_
      obtain ⟨hi9, hw⟩ := hw
      refine va_bald hx hb hK hP 1 0 rfl rfl hi9 (dt_of tkX8_takes_k0 14 rfl) ?_
      refine lv_topi (fun x5 ex5 => ?_)
      have hw := hw x5 ex5
      refine lv_iload_n hx hb (dt_of tkX8_takes_k0 15 rfl) rfl (lv_at hl 1 rfl) ?_
      refine lv_icmp_eq (tgt := 37) hx hb (dt_of tkX8_takes_k32 0 rfl) (by decide) (fun c6 => ?_) (fun c6 => ?_)
      · have hw := hw.1 c6
        refine lv_aload_n hx hb (dt_of tkX8_takes_k32 3 rfl) rfl (lv_at hl 0 rfl) ?_
        refine lv_aload_n hx hb (dt_of tkX8_takes_k32 4 rfl) rfl (lv_at hl 0 rfl) ?_
        refine va_get (D := (dC, dI)) (ci := 8) (v := .int x1) (C := RX8) (T := TX8) (N := 7) hx hb hts ui_X8_takes_X8 hown hK hP 0 rfl rfl 2 (by decide) (hts _ uw_X8_takes_f31) (fun _ h9 => h9) rfl (dt_of tkX8_takes_k32 5 rfl) ?_
        refine va_put (D := (dC, dI)) (ci := 8) (v := .int x1) (ty := .int) (C := RX8) (T := TX8) (N := 7) hx hb hts ui_X8_takes_X8 tyX8 tyX8_ok nmX8 hown hK hP hD hS 0 rfl rfl 3 (by decide) (hts _ uw_X8_takes_f34) (fun _ h9 => h9) rfl (by decide +kernel) rfl rfl (Nat.le_of_ble_eq_true rfl) (dt_of tkX8_takes_k32 6 rfl) (fun H locs hP hD hS => ?_)
        have hP : va_P (dC, dI) vwCl (wd00_36 a0 jif jb7 x1 x1 jjY jkC jkr jif cyB jjA) H := hP
        have hD : va_D A (wd00_36 a0 jif jb7 x1 x1 jjY jkC jkr jif cyB jjA) := hD
        refine lv_aload_n hx hb (dt_of tkX8_takes_k32 7 rfl) rfl (lv_at hl 0 rfl) ?_
        refine lv_dup hx hb (dt_of tkX8_takes_k32 8 rfl) rfl ?_
        refine va_get (D := (dC, dI)) (ci := 8) (v := .int x1) (C := RX8) (T := TX8) (N := 7) hx hb hts ui_X8_takes_X8 hown hK hP 0 rfl rfl 2 (by decide) (hts _ uw_X8_takes_f31) (fun _ h9 => h9) rfl (dt_of tkX8_takes_k32 9 rfl) ?_
        refine lv_iconst (v := 1) hx hb (dt_of tkX8_takes_k32 10 rfl) (by decide) ?_
        refine lv_iadd hx hb (dt_of tkX8_takes_k32 11 rfl) ?_
        refine lv_topi (fun x7 ex7 => ?_)
        have hw := hw x7 ex7
        refine va_put (D := (dC, dI)) (ci := 8) (v := .int x7) (ty := .int) (C := RX8) (T := TX8) (N := 7) hx hb hts ui_X8_takes_X8 tyX8 tyX8_ok nmX8 hown hK hP hD hS 0 rfl rfl 2 (by decide) (hts _ uw_X8_takes_f31) (fun _ h9 => h9) rfl (by decide +kernel) rfl rfl (Nat.le_of_ble_eq_true rfl) (dt_of tkX8_takes_k32 12 rfl) (fun H locs hP hD hS => ?_)
        have hP : va_P (dC, dI) vwCl (wd00_36 a0 jif jb7 x7 x1 jjY jkC jkr jif cyB jjA) H := hP
        have hD : va_D A (wd00_36 a0 jif jb7 x7 x1 jjY jkC jkr jif cyB jjA) := hD
        refine lv_iconst (v := 1) hx hb (dt_of tkX8_takes_k32 13 rfl) (by decide) ?_
        exact ((W.zret (v := 1) hx hb hr rfl (fun t ht hW => ⟨⟨1, (x7, x1), rfl, hw, by rw [ht]; exact hP, va_K.moved hW.alike hK, hD⟩, hS.F ht⟩) hS.2.2 (dt_of tkX8_takes_k32 14 rfl)))
      · have hw := hw.2 c6
        refine lv_iconst (v := 0) hx hb (dt_of tkX8_takes_k32 1 rfl) (by decide) ?_
        exact ((W.zret (v := 0) hx hb hr rfl (fun t ht hW => ⟨⟨0, (x1, jlr), rfl, hw, by rw [ht]; exact hP, va_K.moved hW.alike hK, hD⟩, hS.F ht⟩) hS.2.2 (dt_of tkX8_takes_k32 2 rfl)))
theorem ui_X8_blameSign_X8 : ∀ w ∈ u_ws RX8 TX8 7, w ∈ wsX8_blameSign := uiM mbX8_blameSign euX8 (by decide +kernel)
theorem uw_X8_blameSign_f31 : (.fieldLink RX8 31 "MarchHares$Tape" "at" "I" : Cond) ∈ wsX8_blameSign := mbX8_blameSign 713 (by decide +kernel)
set_option maxHeartbeats 4000000 in
set_option maxRecDepth 100000 in
theorem ck_X8_blameSign (l : Launch) (dC : Nat → ClassId) (dI : Nat → Nat → Nat) (cyB cyI cyJ cyP : ClassId) (a0 jif sz : Nat) (jl9 jjY : Value) (jb7 : Int32) (jjA : Nat → Int32) (jcP jkC jj3 : Int32)  {Q : Int32 → Int32 → Int32 → Prop} (hw : wq_X8_blameSign jb7 jjA jcP jkC jj3  Q) : Met l yX8_blameSign wsX8_blameSign ({ frames := 1, cells := 0, slots := 0, locals := 22 }) (va_Pc [.ref a0] (cPc (dC, dI) (kT cyB cyI cyJ cyP) (wd00_38 a0 jif jb7 jcP jl9 jjY jkC jj3 jif cyB jjA) sz)) (va_Qv (fun (u : Int32 × Int32 × Int32) => Q u.1 u.2.1 u.2.2) (cB (dC, dI) (kT cyB cyI cyJ cyP) (va_A (wd00_38 a0 jif jb7 jcP jl9 jjY jkC jj3 jif cyB jjA) sz) (fun u : Int32 × Int32 × Int32 => ((wd00_38 a0 jif jb7 u.1 jl9 jjY u.2.1 u.2.2 jif cyB jjA) : va_W))) (va_A (wd00_38 a0 jif jb7 jcP jl9 jjY jkC jj3 jif cyB jjA) sz)) 0 0 (va_A (wd00_38 a0 jif jb7 jcP jl9 jjY jkC jj3 jif cyB jjA) sz) := by
  refine Met.ofW (cc := cX8_blameSign) (maxL := 1) (ret := none) (by decide) rfl ?_
  intro p e s m args below meth c s₁ B hml hv
  obtain ⟨rfl, hsz, hP, hK, hD0, hNw⟩ := hv
  have hx := B.exec
  have hb := B.bytes
  have hr := B.returns
  have hts := atoms_spec (ws := wsX8_blameSign) B.pre
  have hown : s.vm.findClass RX8 = some m.cls := findClass_of_methodNamed B.named
  have hlocks := B.notSynchronized
  subst hsz
  have hD := hD0.self (sz := s.heap.size)
  generalize hAe : va_A (wd00_38 a0 jif jb7 jcP jl9 jjY jkC jj3 jif cyB jjA) s.heap.size = A at hD ⊢
  have hA : ∀ q : Nat, s.heap.size ≤ q → A q := fun q h => by rw [← hAe]; exact Or.inr h
  have hS : va_S A s.heap s.heap [] := va_S.rf
  have hP : va_P (dC, dI) vwCl (wd00_38 a0 jif jb7 jcP jl9 jjY jkC jj3 jif cyB jjA) s.heap := hP
  have hl := lv_entry ([.ref a0]) (n := 1) (Nat.le_of_ble_eq_true rfl)
  rw [lg_entry_eq]
  generalize (lg_sl ([.ref a0]) ++ List.replicate (1 - (lg_sl ([.ref a0])).length) Slot.unset).toArray = ls at hl ⊢
  have hl : lv_has ls 1 [(0, .ref a0)] := hl
  have C0 : cfx p s m _ meth c cX8_blameSign none wsX8_blameSign RX8 1 A (dC, dI) (kT cyB cyI cyJ cyP) := ⟨hx, hb, hr, hts, hown, hlocks, hml, hA, hK, hNw⟩
  clear hAe
  obtain ⟨H, hH⟩ : ∃ H, H = s.heap := ⟨_, rfl⟩
  rw [← hH] at hP ⊢
  have hS : va_S A s.heap H [] := by rw [hH]; exact va_S.rf
  have hS := hS
  refine lv_aload_n hx hb (dt_of tkX8_blameSign_k0 0 rfl) rfl (lv_at hl 0 rfl) ?_
  obtain ⟨hCc, hPc, hDc, hFc⟩ := va_pick (ws' := (wd00_38 a0 jif jb7 jcP jl9 jjY jkC jj3 jif cyB jjA)) hP hD hS hA [0, 1] (by decide +kernel) rfl
  refine va_callv (va_runV (As := []) (rest := []) ⟨hx, hb, hml, hown, hts⟩ (ck_X8_skipBlanks l dC dI cyB cyI cyJ cyP a0 jif H.size (jl9) (jjY) (.int jkC) (.int jj3) jb7 jjA jcP  hw) (cwV 0 hts gX8_blameSign_X8_skipBlanks rfl rfl rfl (by decide +kernel) ⟨Nat.le_of_ble_eq_true rfl, Nat.le_of_ble_eq_true rfl⟩) ⟨cPc_blind, va_recv (q := (RX8, TX8, 7)) hK hPc (ci := 8) (q0 := 0) rfl rfl, cPc_pre hPc hK hDc hNw⟩ rfl rfl hl.1 rfl (lv_room (Nat.le_of_ble_eq_true rfl)) (dt_of tkX8_blameSign_k0 1 rfl) ⟨Nat.le_of_ble_eq_true rfl, Nat.le_of_ble_eq_true rfl⟩) hS (fun q _ h => hFc q h) hFc (fun u t H1 locs ht hvm hw hB hz1 hk1 hS => ?_)
  obtain ⟨x1, rfl⟩ : ∃ z, z = u := ⟨_, rfl⟩
  obtain ⟨hP1, hK1, hD1⟩ := hB
  rw [ht] at hP1
  obtain ⟨hP, hD⟩ := va_joinI (wr := []) (w1 := (wd00_38 a0 jif jb7 x1 jl9 jjY jkC jj3 jif cyB jjA)) (wn := (wd00_38 a0 jif jb7 x1 jl9 jjY jkC jj3 jif cyB jjA)) hP hD [0, 1] [] hCc rfl (by decide +kernel) (by decide +kernel) rfl hk1 hFc hP1 hD1
  generalize H1 = H at hP hS ⊢
  refine lv_aload_n hx hb (dt_of tkX8_blameSign_k0 2 rfl) rfl (lv_at hl 0 rfl) ?_
  refine lv_iconst (v := 1) hx hb (dt_of tkX8_blameSign_k0 3 rfl) (by decide) ?_
  refine lv_aload_n hx hb (dt_of tkX8_blameSign_k0 4 rfl) rfl (lv_at hl 0 rfl) ?_
  refine va_get (D := (dC, dI)) (ci := 8) (v := .int x1) (C := RX8) (T := TX8) (N := 7) hx hb hts ui_X8_blameSign_X8 hown hK hP 0 rfl rfl 2 (by decide) (hts _ uw_X8_blameSign_f31) (fun _ h9 => h9) rfl (dt_of tkX8_blameSign_k0 5 rfl) ?_
  obtain ⟨hCc, hPc, hDc, hFc⟩ := va_pick (ws' := (wd00_39 a0 jif jb7 x1 jl9 jjY jkC jj3)) hP hD hS hA [0] (by decide +kernel) rfl
  refine va_callv (va_runV (As := [.int 1, .int x1]) (rest := []) ⟨hx, hb, hml, hown, hts⟩ (ck_X8_blame l dC dI cyB cyI cyJ cyP a0 H.size (.ref jif) (.int jb7) (.int x1) (jl9) (jjY)  jkC jj3 1 x1 hw) (cwV 2 hts gX8_blameSign_X8_blame rfl rfl rfl (by decide +kernel) ⟨Nat.le_of_ble_eq_true rfl, Nat.le_of_ble_eq_true rfl⟩) ⟨cPc_blind, va_recv (q := (RX8, TX8, 7)) hK hPc (ci := 8) (q0 := 0) rfl rfl, cPc_pre hPc hK hDc hNw⟩ rfl rfl hl.1 rfl (lv_room (Nat.le_of_ble_eq_true rfl)) (dt_of tkX8_blameSign_k0 6 rfl) ⟨Nat.le_of_ble_eq_true rfl, Nat.le_of_ble_eq_true rfl⟩) hS (fun q _ h => hFc q h) hFc (fun u t H1 locs ht hvm hw hB hz1 hk1 hS => ?_)
  obtain ⟨x2, x3⟩ := u
  obtain ⟨hP1, hK1, hD1⟩ := hB
  rw [ht] at hP1
  obtain ⟨hP, hD⟩ := va_joinN (wr := (wd00_33 jif cyB jjA)) (w1 := (wd00_39 a0 jif jb7 x1 jl9 jjY x2 x3)) (wn := (wd00_38 a0 jif jb7 x1 jl9 jjY x2 x3 jif cyB jjA)) hP hD [0] [1] [1, 0] hCc rfl (by decide +kernel) (by decide +kernel) (by decide +kernel) rfl hk1 hFc hP1 hD1
  generalize H1 = H at hP hS ⊢
  exact ((W.vret hx hb hr (fun t ht hW => ⟨⟨(x1, x2, x3), rfl, hw, by rw [ht]; exact hP, va_K.moved hW.alike hK, hD⟩, hS.F ht⟩) hS.2.2 (dt_of tkX8_blameSign_k0 7 rfl)))
set_option maxHeartbeats 4000000 in
set_option maxRecDepth 100000 in
theorem ck_X8_needs (l : Launch) (dC : Nat → ClassId) (dI : Nat → Nat → Nat) (cyB cyI cyJ cyP : ClassId) (a0 jif sz : Nat) (jjY : Value) (jb7 : Int32) (jjA : Nat → Int32) (jcP jlr jkC jj3 p1 : Int32) {Q : Int32 → Int32 → Int32 → Int32 → Prop} (hw : wq_X8_needs jb7 jjA jcP jlr jkC jj3 p1 Q) : Met l yX8_needs wsX8_needs ({ frames := 2, cells := 0, slots := 0, locals := 42 }) (va_Pc [.ref a0, .int p1] (cPc (dC, dI) (kT cyB cyI cyJ cyP) (wd00_31 a0 jif jb7 jcP jlr jjY jkC jj3 jif cyB jjA) sz)) (va_Qv (fun (u : Int32 × Int32 × Int32 × Int32) => Q u.1 u.2.1 u.2.2.1 u.2.2.2) (cB (dC, dI) (kT cyB cyI cyJ cyP) (va_A (wd00_31 a0 jif jb7 jcP jlr jjY jkC jj3 jif cyB jjA) sz) (fun u : Int32 × Int32 × Int32 × Int32 => ((wd00_31 a0 jif jb7 u.1 u.2.1 jjY u.2.2.1 u.2.2.2 jif cyB jjA) : va_W))) (va_A (wd00_31 a0 jif jb7 jcP jlr jjY jkC jj3 jif cyB jjA) sz)) 0 0 (va_A (wd00_31 a0 jif jb7 jcP jlr jjY jkC jj3 jif cyB jjA) sz) := by
  refine Met.ofW (cc := cX8_needs) (maxL := 2) (ret := none) (by decide) rfl ?_
  intro p e s m args below meth c s₁ B hml hv
  obtain ⟨rfl, hsz, hP, hK, hD0, hNw⟩ := hv
  have hx := B.exec
  have hb := B.bytes
  have hr := B.returns
  have hts := atoms_spec (ws := wsX8_needs) B.pre
  have hown : s.vm.findClass RX8 = some m.cls := findClass_of_methodNamed B.named
  have hlocks := B.notSynchronized
  subst hsz
  have hD := hD0.self (sz := s.heap.size)
  generalize hAe : va_A (wd00_31 a0 jif jb7 jcP jlr jjY jkC jj3 jif cyB jjA) s.heap.size = A at hD ⊢
  have hA : ∀ q : Nat, s.heap.size ≤ q → A q := fun q h => by rw [← hAe]; exact Or.inr h
  have hS : va_S A s.heap s.heap [] := va_S.rf
  have hP : va_P (dC, dI) vwCl (wd00_31 a0 jif jb7 jcP jlr jjY jkC jj3 jif cyB jjA) s.heap := hP
  have hl := lv_entry ([.ref a0, .int p1]) (n := 2) (Nat.le_of_ble_eq_true rfl)
  rw [lg_entry_eq]
  generalize (lg_sl ([.ref a0, .int p1]) ++ List.replicate (2 - (lg_sl ([.ref a0, .int p1])).length) Slot.unset).toArray = ls at hl ⊢
  have hl : lv_has ls 2 [(0, .ref a0), (1, .int p1)] := hl
  have C0 : cfx p s m _ meth c cX8_needs none wsX8_needs RX8 2 A (dC, dI) (kT cyB cyI cyJ cyP) := ⟨hx, hb, hr, hts, hown, hlocks, hml, hA, hK, hNw⟩
  clear hAe
  obtain ⟨H, hH⟩ : ∃ H, H = s.heap := ⟨_, rfl⟩
  rw [← hH] at hP ⊢
  have hS : va_S A s.heap H [] := by rw [hH]; exact va_S.rf
  have hS := hS
  refine lv_aload_n hx hb (dt_of tkX8_needs_k0 0 rfl) rfl (lv_at hl 0 rfl) ?_
  refine lv_iload_n hx hb (dt_of tkX8_needs_k0 1 rfl) rfl (lv_at hl 1 rfl) ?_
  obtain ⟨hCc, hPc, hDc, hFc⟩ := va_pick (ws' := (wd00_31 a0 jif jb7 jcP jlr jjY jkC jj3 jif cyB jjA)) hP hD hS hA [0, 1] (by decide +kernel) rfl
  refine va_calli (va_runV (As := [.int p1]) (rest := []) ⟨hx, hb, hml, hown, hts⟩ (ck_X8_takes l dC dI cyB cyI cyJ cyP a0 jif H.size (jjY) (.int jj3) jb7 jkC jjA jcP jlr p1 hw) (cwV 1 hts gX8_needs_X8_takes rfl rfl rfl (by decide +kernel) ⟨Nat.le_of_ble_eq_true rfl, Nat.le_of_ble_eq_true rfl⟩) ⟨cPc_blind, va_recv (q := (RX8, TX8, 7)) hK hPc (ci := 8) (q0 := 0) rfl rfl, cPc_pre hPc hK hDc hNw⟩ rfl rfl hl.1 rfl (lv_room (Nat.le_of_ble_eq_true rfl)) (dt_of tkX8_needs_k0 2 rfl) ⟨Nat.le_of_ble_eq_true rfl, Nat.le_of_ble_eq_true rfl⟩) hS (fun q _ h => hFc q h) hFc (fun r3 u t H1 locs ht hvm hw hB hz1 hk1 hS => ?_)
  obtain ⟨x1, x2⟩ := u
  obtain ⟨hP1, hK1, hD1⟩ := hB
  rw [ht] at hP1
  obtain ⟨hP, hD⟩ := va_joinI (wr := []) (w1 := (wd00_31 a0 jif jb7 x1 x2 jjY jkC jj3 jif cyB jjA)) (wn := (wd00_31 a0 jif jb7 x1 x2 jjY jkC jj3 jif cyB jjA)) hP hD [0, 1] [] hCc rfl (by decide +kernel) (by decide +kernel) rfl hk1 hFc hP1 hD1
  generalize H1 = H at hP hS ⊢
  refine lv_if_ne (tgt := 12) hx hb (dt_of tkX8_needs_k0 3 rfl) (by decide) (fun c4 => ?_) (fun c4 => ?_)
  · have hw := hw.1 c4
    exact ((W.vret hx hb hr (fun t ht hW => ⟨⟨(x1, x2, jkC, jj3), rfl, hw, by rw [ht]; exact hP, va_K.moved hW.alike hK, hD⟩, hS.F ht⟩) hS.2.2 (dt_of tkX8_needs_k0 6 rfl)))
  · have hw := hw.2 c4
    refine lv_aload_n hx hb (dt_of tkX8_needs_k0 4 rfl) rfl (lv_at hl 0 rfl) ?_
    obtain ⟨hCc, hPc, hDc, hFc⟩ := va_pick (ws' := (wd00_31 a0 jif jb7 x1 x2 jjY jkC jj3 jif cyB jjA)) hP hD hS hA [0, 1] (by decide +kernel) rfl
    refine va_callv (va_runV (As := []) (rest := []) ⟨hx, hb, hml, hown, hts⟩ (ck_X8_blameSign l dC dI cyB cyI cyJ cyP a0 jif H.size (.int x2) (jjY) jb7 jjA x1 jkC jj3  hw) (cwV 0 hts gX8_needs_X8_blameSign rfl rfl rfl (by decide +kernel) ⟨Nat.le_of_ble_eq_true rfl, Nat.le_of_ble_eq_true rfl⟩) ⟨cPc_blind, va_recv (q := (RX8, TX8, 7)) hK hPc (ci := 8) (q0 := 0) rfl rfl, cPc_pre hPc hK hDc hNw⟩ rfl rfl hl.1 rfl (lv_room (Nat.le_of_ble_eq_true rfl)) (dt_of tkX8_needs_k0 5 rfl) ⟨Nat.le_of_ble_eq_true rfl, Nat.le_of_ble_eq_true rfl⟩) hS (fun q _ h => hFc q h) hFc (fun u t H1 locs ht hvm hw hB hz1 hk1 hS => ?_)
    obtain ⟨x5, x6, x7⟩ := u
    obtain ⟨hP1, hK1, hD1⟩ := hB
    rw [ht] at hP1
    obtain ⟨hP, hD⟩ := va_joinI (wr := []) (w1 := (wd00_31 a0 jif jb7 x5 x2 jjY x6 x7 jif cyB jjA)) (wn := (wd00_31 a0 jif jb7 x5 x2 jjY x6 x7 jif cyB jjA)) hP hD [0, 1] [] hCc rfl (by decide +kernel) (by decide +kernel) rfl hk1 hFc hP1 hD1
    generalize H1 = H at hP hS ⊢
    exact ((W.vret hx hb hr (fun t ht hW => ⟨⟨(x5, x2, x6, x7), rfl, hw, by rw [ht]; exact hP, va_K.moved hW.alike hK, hD⟩, hS.F ht⟩) hS.2.2 (dt_of tkX8_needs_k0 6 rfl)))
theorem ui_X0_readLine_X0 : ∀ w ∈ u_ws RX0 TX0 2, w ∈ wsX0_readLine := uiM mbX0_readLine euX0 (by decide +kernel)
theorem uw_X0_readLine_f18 : (.fieldLink RX0 18 "MarchHares$Book" "many" "I" : Cond) ∈ wsX0_readLine := mbX0_readLine 262 (by decide +kernel)
theorem uw_X0_readLine_f9 : (.fieldLink RX0 9 "MarchHares$Book" "seen" "[I" : Cond) ∈ wsX0_readLine := mbX0_readLine 257 (by decide +kernel)
theorem uw_X0_readLine_iniRX10 : (.initialized RX10 : Cond) ∈ wsX0_readLine := mbX0_readLine 2 (by decide +kernel)
theorem uw_X0_readLine_stX10_within : (.static yX10_within : Cond) ∈ wsX0_readLine := mbX0_readLine 658 (by decide +kernel)
set_option maxHeartbeats 4000000 in
set_option maxRecDepth 100000 in
theorem kb_X0_readLine_33 {p : Program} {l : Launch} {e : Env} {s : State} {m : MethodId} {args : Array Value} {below : List Frame} {meth : Method} {c : Code} {A : Nat → Prop} (dC : Nat → ClassId) (dI : Nat → Nat → Nat) (cyB cyI cyJ cyP : ClassId) (a0 a1 jbF jjj : Nat) (jcI : Value) (jb3 : Int32) (jcq : Nat → Int32) (Q : Int32 → Int32 → Int32 → Int32 → (Nat → Int32) → Int32 → Prop)  (C0 : cfx p s m args meth c cX0_readLine none wsX0_readLine RX0 5 A (dC, dI) (kT cyB cyI cyJ cyP)) : ∀ (H : Heap) (locs : List Loc) (ls : Array Slot) (jhS jcU jbM jeF : Int32) (jkG : Nat → Int32) (jkY l3 : Int32), va_P (dC, dI) vwCl (wd00_40 a0 jjj jkY a1 jbF jb3 jhS jeF jcI jcU jbM jbF cyB jcq jjj cyI jkG) H → va_D A (wd00_40 a0 jjj jkY a1 jbF jb3 jhS jeF jcI jcU jbM jbF cyB jcq jjj cyI jkG) → va_S A s.heap H locs → lv_has ls 5 [(0, .ref a0), (1, .ref a1), (3, .int l3)] → wb_X0_readLine_33 jb3 jcq Q  jhS jcU jbM jeF jkG jkY l3 → W p l e (headSpec wsX0_readLine ({ frames := 3, cells := 0, slots := 0, locals := 63 })).room s m args below meth c H locs 0 0 (MQ below (va_Qv (fun (u : Int32 × Int32 × Int32 × Int32 × (Nat → Int32) × Int32) => Q u.1 u.2.1 u.2.2.1 u.2.2.2.1 u.2.2.2.2.1 u.2.2.2.2.2) (cB (dC, dI) (kT cyB cyI cyJ cyP) A (fun u : Int32 × Int32 × Int32 × Int32 × (Nat → Int32) × Int32 => ((wd00_40 a0 jjj u.2.2.2.2.2 a1 jbF jb3 u.1 u.2.2.2.1 jcI u.2.1 u.2.2.1 jbF cyB jcq jjj cyI u.2.2.2.2.1) : va_W))) A) args s 0 0 A) (F0 m 33 ls []) := by
  obtain ⟨hx, hb, hr, hts, hown, hlocks, hml, hA, hK, hNw⟩ := id C0
  intro H locs ls jhS jcU jbM jeF jkG jkY l3 hP hD hS hl hw
  refine lv_aload_n hx hb (dt_of tkX0_readLine_k22 5 rfl) rfl (lv_at hl 1 rfl) ?_
  refine lv_iconst (v := 0) hx hb (dt_of tkX0_readLine_k22 6 rfl) (by decide) ?_
  refine lv_bipush (v := 6) hx hb (dt_of tkX0_readLine_k22 7 rfl) (by decide) ?_
  obtain ⟨hCc, hPc, hDc, hFc⟩ := va_pick (ws' := (wd00_31 a1 jbF jb3 jhS jeF jcI jcU jbM jbF cyB jcq)) hP hD hS hA [1, 2] (by decide +kernel) rfl
  refine va_calli (va_runV (As := [.int 0, .int 6]) (rest := []) ⟨hx, hb, hml, hown, hts⟩ (ck_X8_number l dC dI cyB cyI cyJ cyP a1 jbF H.size (jcI) jb3 jcq jhS jcU jbM jeF 0 6 hw) (cwV 2 hts gX0_readLine_X8_number rfl rfl rfl (by decide +kernel) ⟨Nat.le_of_ble_eq_true rfl, Nat.le_of_ble_eq_true rfl⟩) ⟨cPc_blind, va_recv (q := (RX8, TX8, 7)) hK hPc (ci := 8) (q0 := 0) rfl rfl, cPc_pre hPc hK hDc hNw⟩ rfl rfl hl.1 rfl (lv_room (Nat.le_of_ble_eq_true rfl)) (dt_of tkX0_readLine_k22 8 rfl) ⟨Nat.le_of_ble_eq_true rfl, Nat.le_of_ble_eq_true rfl⟩) hS (fun q _ h => hFc q h) hFc (fun r16 u t H1 locs ht hvm hw hB hz1 hk1 hS => ?_)
  obtain ⟨x12, x13, x14, x15⟩ := u
  obtain ⟨hP1, hK1, hD1⟩ := hB
  rw [ht] at hP1
  obtain ⟨hP, hD⟩ := va_joinN (wr := (wd00_26 a0 jjj jkY jjj cyI jkG)) (w1 := (wd00_31 a1 jbF jb3 x12 x15 jcI x13 x14 jbF cyB jcq)) (wn := (wd00_40 a0 jjj jkY a1 jbF jb3 x12 x15 jcI x13 x14 jbF cyB jcq jjj cyI jkG)) hP hD [1, 2] [0, 3] [0, 2, 3, 1] hCc rfl (by decide +kernel) (by decide +kernel) (by decide +kernel) rfl hk1 hFc hP1 hD1
  generalize H1 = H at hP hS ⊢
  refine lv_istore (lv' := [(4, .int r16), (0, .ref a0), (1, .ref a1), (3, .int l3)]) hx hb (dt_of tkX0_readLine_k22 9 rfl) hl (by decide) rfl (fun ls hl => ?_)
  refine lv_aload_n hx hb (dt_of tkX0_readLine_k22 10 rfl) rfl (lv_at hl 2 rfl) ?_
  refine lv_bipush (v := 59) hx hb (dt_of tkX0_readLine_k22 11 rfl) (by decide) ?_
  obtain ⟨hCc, hPc, hDc, hFc⟩ := va_pick (ws' := (wd00_31 a1 jbF jb3 x12 x15 jcI x13 x14 jbF cyB jcq)) hP hD hS hA [1, 2] (by decide +kernel) rfl
  refine va_callv (va_runV (As := [.int 59]) (rest := []) ⟨hx, hb, hml, hown, hts⟩ (ck_X8_needs l dC dI cyB cyI cyJ cyP a1 jbF H.size (jcI) jb3 jcq x12 x15 x13 x14 59 hw) (cwV 1 hts gX0_readLine_X8_needs rfl rfl rfl (by decide +kernel) ⟨Nat.le_of_ble_eq_true rfl, Nat.le_of_ble_eq_true rfl⟩) ⟨cPc_blind, va_recv (q := (RX8, TX8, 7)) hK hPc (ci := 8) (q0 := 0) rfl rfl, cPc_pre hPc hK hDc hNw⟩ rfl rfl hl.1 rfl (lv_room (Nat.le_of_ble_eq_true rfl)) (dt_of tkX0_readLine_k22 12 rfl) ⟨Nat.le_of_ble_eq_true rfl, Nat.le_of_ble_eq_true rfl⟩) hS (fun q _ h => hFc q h) hFc (fun u t H1 locs ht hvm hw hB hz1 hk1 hS => ?_)
  obtain ⟨x17, x18, x19, x20⟩ := u
  obtain ⟨hP1, hK1, hD1⟩ := hB
  rw [ht] at hP1
  obtain ⟨hP, hD⟩ := va_joinN (wr := (wd00_26 a0 jjj jkY jjj cyI jkG)) (w1 := (wd00_31 a1 jbF jb3 x17 x18 jcI x19 x20 jbF cyB jcq)) (wn := (wd00_40 a0 jjj jkY a1 jbF jb3 x17 x18 jcI x19 x20 jbF cyB jcq jjj cyI jkG)) hP hD [1, 2] [0, 3] [0, 2, 3, 1] hCc rfl (by decide +kernel) (by decide +kernel) (by decide +kernel) rfl hk1 hFc hP1 hD1
  generalize H1 = H at hP hS ⊢
  refine lv_aload_n hx hb (dt_of tkX0_readLine_k22 13 rfl) rfl (lv_at hl 2 rfl) ?_
  obtain ⟨hCc, hPc, hDc, hFc⟩ := va_pick (ws' := (wd00_32 a1 jbF jb3 x17 x18 jcI x19 x20)) hP hD hS hA [1] (by decide +kernel) rfl
  refine va_calli (va_runV (As := []) (rest := []) ⟨hx, hb, hml, hown, hts⟩ (ck_X8_isFaulty l dC dI cyB cyI cyJ cyP a1 H.size (.ref jbF) (.int jb3) (.int x17) (.int x18) (jcI) (.int x20) x19   hw) (cwV 0 hts gX0_readLine_X8_isFaulty rfl rfl rfl (by decide +kernel) ⟨Nat.le_of_ble_eq_true rfl, Nat.le_of_ble_eq_true rfl⟩) ⟨cPc_blind, va_recv (q := (RX8, TX8, 7)) hK hPc (ci := 8) (q0 := 0) rfl rfl, cPc_pre hPc hK hDc hNw⟩ rfl rfl hl.1 rfl (lv_room (Nat.le_of_ble_eq_true rfl)) (dt_of tkX0_readLine_k22 14 rfl) ⟨Nat.le_of_ble_eq_true rfl, Nat.le_of_ble_eq_true rfl⟩) hS (fun q _ h => hFc q h) hFc (fun r21 u t H1 locs ht hvm hw hB hz1 hk1 hS => ?_)
  obtain ⟨hP1, hK1, hD1⟩ := hB
  rw [ht] at hP1
  obtain ⟨hP, hD⟩ := va_joinN (wr := (wd00_41 a0 jjj jkY jbF cyB jcq jjj cyI jkG)) (w1 := (wd00_32 a1 jbF jb3 x17 x18 jcI x19 x20)) (wn := (wd00_40 a0 jjj jkY a1 jbF jb3 x17 x18 jcI x19 x20 jbF cyB jcq jjj cyI jkG)) hP hD [1] [0, 2, 3] [0, 3, 1, 2] hCc rfl (by decide +kernel) (by decide +kernel) (by decide +kernel) rfl hk1 hFc hP1 hD1
  generalize H1 = H at hP hS ⊢
  refine lv_if_ne (tgt := 73) hx hb (dt_of tkX0_readLine_k22 15 rfl) (by decide) (fun c22 => ?_) (fun c22 => ?_)
  · have hw := hw.1 c22
    exact ((W.vret hx hb hr (fun t ht hW => ⟨⟨(x17, x19, x20, x18, jkG, jkY), rfl, hw, by rw [ht]; exact hP, va_K.moved hW.alike hK, hD⟩, hS.F ht⟩) hS.2.2 (dt_of tkX0_readLine_k55 11 rfl)))
  · have hw := hw.2 c22
    refine lv_aload_n hx hb (dt_of tkX0_readLine_k55 0 rfl) rfl (lv_at hl 1 rfl) ?_
    refine va_get (D := (dC, dI)) (ci := 0) (v := .ref jjj) (C := RX0) (T := TX0) (N := 2) hx hb hts ui_X0_readLine_X0 hown hK hP 0 rfl rfl 0 (by decide) (hts _ uw_X0_readLine_f9) (fun _ h9 => h9) rfl (dt_of tkX0_readLine_k55 1 rfl) ?_
    refine lv_iload_n hx hb (dt_of tkX0_readLine_k55 2 rfl) rfl (lv_at hl 3 rfl) ?_
    refine lv_iload hx hb (dt_of tkX0_readLine_k55 3 rfl) (lv_at hl 0 rfl) ?_
    obtain ⟨hi9, hw⟩ := hw
    refine va_iast hx hb hK hP hD hS 3 1 rfl rfl hi9 (dt_of tkX0_readLine_k55 4 rfl) (fun H locs hP hD hS => ?_)
    obtain ⟨f23, ef23⟩ : ∃ y : Nat → Int32, y = upd jkG l3.toNatClampNeg r16 := ⟨_, rfl⟩
    have hw := hw f23 ef23
    have hP : va_P (dC, dI) vwCl (wd00_40 a0 jjj jkY a1 jbF jb3 x17 x18 jcI x19 x20 jbF cyB jcq jjj cyI f23) H := by rw [ef23]; exact hP
    have hD : va_D A (wd00_40 a0 jjj jkY a1 jbF jb3 x17 x18 jcI x19 x20 jbF cyB jcq jjj cyI f23) := by rw [ef23]; exact hD
    refine lv_aload_n hx hb (dt_of tkX0_readLine_k55 5 rfl) rfl (lv_at hl 1 rfl) ?_
    refine lv_dup hx hb (dt_of tkX0_readLine_k55 6 rfl) rfl ?_
    refine va_get (D := (dC, dI)) (ci := 0) (v := .int jkY) (C := RX0) (T := TX0) (N := 2) hx hb hts ui_X0_readLine_X0 hown hK hP 0 rfl rfl 1 (by decide) (hts _ uw_X0_readLine_f18) (fun _ h9 => h9) rfl (dt_of tkX0_readLine_k55 7 rfl) ?_
    refine lv_iconst (v := 1) hx hb (dt_of tkX0_readLine_k55 8 rfl) (by decide) ?_
    refine lv_iadd hx hb (dt_of tkX0_readLine_k55 9 rfl) ?_
    refine lv_topi (fun x24 ex24 => ?_)
    have hw := hw x24 ex24
    refine va_put (D := (dC, dI)) (ci := 0) (v := .int x24) (ty := .int) (C := RX0) (T := TX0) (N := 2) hx hb hts ui_X0_readLine_X0 tyX0 tyX0_ok nmX0 hown hK hP hD hS 0 rfl rfl 1 (by decide) (hts _ uw_X0_readLine_f18) (fun _ h9 => h9) rfl (by decide +kernel) rfl rfl (Nat.le_of_ble_eq_true rfl) (dt_of tkX0_readLine_k55 10 rfl) (fun H locs hP hD hS => ?_)
    have hP : va_P (dC, dI) vwCl (wd00_40 a0 jjj x24 a1 jbF jb3 x17 x18 jcI x19 x20 jbF cyB jcq jjj cyI f23) H := hP
    have hD : va_D A (wd00_40 a0 jjj x24 a1 jbF jb3 x17 x18 jcI x19 x20 jbF cyB jcq jjj cyI f23) := hD
    exact ((W.vret hx hb hr (fun t ht hW => ⟨⟨(x17, x19, x20, x18, f23, x24), rfl, hw, by rw [ht]; exact hP, va_K.moved hW.alike hK, hD⟩, hS.F ht⟩) hS.2.2 (dt_of tkX0_readLine_k55 11 rfl)))
set_option maxHeartbeats 4000000 in
set_option maxRecDepth 100000 in
theorem ck_X0_readLine (l : Launch) (dC : Nat → ClassId) (dI : Nat → Nat → Nat) (cyB cyI cyJ cyP : ClassId) (a0 a1 jbF jjj sz : Nat) (jcI : Value) (jb3 : Int32) (jcq : Nat → Int32) (jhS jcU jbM jeF : Int32) (jkG : Nat → Int32) (jkY p2 : Int32) {Q : Int32 → Int32 → Int32 → Int32 → (Nat → Int32) → Int32 → Prop} (hw : wq_X0_readLine jb3 jcq jhS jcU jbM jeF jkG jkY p2 Q) : Met l yX0_readLine wsX0_readLine ({ frames := 3, cells := 0, slots := 0, locals := 63 }) (va_Pc [.ref a0, .ref a1, .int p2] (cPc (dC, dI) (kT cyB cyI cyJ cyP) (wd00_40 a0 jjj jkY a1 jbF jb3 jhS jeF jcI jcU jbM jbF cyB jcq jjj cyI jkG) sz)) (va_Qv (fun (u : Int32 × Int32 × Int32 × Int32 × (Nat → Int32) × Int32) => Q u.1 u.2.1 u.2.2.1 u.2.2.2.1 u.2.2.2.2.1 u.2.2.2.2.2) (cB (dC, dI) (kT cyB cyI cyJ cyP) (va_A (wd00_40 a0 jjj jkY a1 jbF jb3 jhS jeF jcI jcU jbM jbF cyB jcq jjj cyI jkG) sz) (fun u : Int32 × Int32 × Int32 × Int32 × (Nat → Int32) × Int32 => ((wd00_40 a0 jjj u.2.2.2.2.2 a1 jbF jb3 u.1 u.2.2.2.1 jcI u.2.1 u.2.2.1 jbF cyB jcq jjj cyI u.2.2.2.2.1) : va_W))) (va_A (wd00_40 a0 jjj jkY a1 jbF jb3 jhS jeF jcI jcU jbM jbF cyB jcq jjj cyI jkG) sz)) 0 0 (va_A (wd00_40 a0 jjj jkY a1 jbF jb3 jhS jeF jcI jcU jbM jbF cyB jcq jjj cyI jkG) sz) := by
  refine Met.ofW (cc := cX0_readLine) (maxL := 5) (ret := none) (by decide) rfl ?_
  intro p e s m args below meth c s₁ B hml hv
  obtain ⟨rfl, hsz, hP, hK, hD0, hNw⟩ := hv
  have hx := B.exec
  have hb := B.bytes
  have hr := B.returns
  have hts := atoms_spec (ws := wsX0_readLine) B.pre
  have hown : s.vm.findClass RX0 = some m.cls := findClass_of_methodNamed B.named
  have hlocks := B.notSynchronized
  subst hsz
  have hD := hD0.self (sz := s.heap.size)
  generalize hAe : va_A (wd00_40 a0 jjj jkY a1 jbF jb3 jhS jeF jcI jcU jbM jbF cyB jcq jjj cyI jkG) s.heap.size = A at hD ⊢
  have hA : ∀ q : Nat, s.heap.size ≤ q → A q := fun q h => by rw [← hAe]; exact Or.inr h
  have hS : va_S A s.heap s.heap [] := va_S.rf
  have hP : va_P (dC, dI) vwCl (wd00_40 a0 jjj jkY a1 jbF jb3 jhS jeF jcI jcU jbM jbF cyB jcq jjj cyI jkG) s.heap := hP
  have hl := lv_entry ([.ref a0, .ref a1, .int p2]) (n := 5) (Nat.le_of_ble_eq_true rfl)
  rw [lg_entry_eq]
  generalize (lg_sl ([.ref a0, .ref a1, .int p2]) ++ List.replicate (5 - (lg_sl ([.ref a0, .ref a1, .int p2])).length) Slot.unset).toArray = ls at hl ⊢
  have hl : lv_has ls 5 [(0, .ref a0), (1, .ref a1), (2, .int p2)] := hl
  have C0 : cfx p s m _ meth c cX0_readLine none wsX0_readLine RX0 5 A (dC, dI) (kT cyB cyI cyJ cyP) := ⟨hx, hb, hr, hts, hown, hlocks, hml, hA, hK, hNw⟩
  clear hAe
  obtain ⟨H, hH⟩ : ∃ H, H = s.heap := ⟨_, rfl⟩
  rw [← hH] at hP ⊢
  have hS : va_S A s.heap H [] := by rw [hH]; exact va_S.rf
  have hS := hS
  refine lv_aload_n hx hb (dt_of tkX0_readLine_k0 0 rfl) rfl (lv_at hl 1 rfl) ?_
  refine lv_iconst (v := 0) hx hb (dt_of tkX0_readLine_k0 1 rfl) (by decide) ?_
  refine lv_iload_n hx hb (dt_of tkX0_readLine_k0 2 rfl) rfl (lv_at hl 2 rfl) ?_
  refine lv_iconst (v := 1) hx hb (dt_of tkX0_readLine_k0 3 rfl) (by decide) ?_
  refine lv_isub hx hb (dt_of tkX0_readLine_k0 4 rfl) ?_
  obtain ⟨hCc, hPc, hDc, hFc⟩ := va_pick (ws' := (wd00_31 a1 jbF jb3 jhS jeF jcI jcU jbM jbF cyB jcq)) hP hD hS hA [1, 2] (by decide +kernel) rfl
  refine va_calli (va_runV (As := [.int 0, .int (p2 - 1)]) (rest := []) ⟨hx, hb, hml, hown, hts⟩ (ck_X8_number l dC dI cyB cyI cyJ cyP a1 jbF H.size (jcI) jb3 jcq jhS jcU jbM jeF 0 (p2 - 1) hw) (cwV 2 hts gX0_readLine_X8_number rfl rfl rfl (by decide +kernel) ⟨Nat.le_of_ble_eq_true rfl, Nat.le_of_ble_eq_true rfl⟩) ⟨cPc_blind, va_recv (q := (RX8, TX8, 7)) hK hPc (ci := 8) (q0 := 0) rfl rfl, cPc_pre hPc hK hDc hNw⟩ rfl rfl hl.1 rfl (lv_room (Nat.le_of_ble_eq_true rfl)) (dt_of tkX0_readLine_k0 5 rfl) ⟨Nat.le_of_ble_eq_true rfl, Nat.le_of_ble_eq_true rfl⟩) hS (fun q _ h => hFc q h) hFc (fun r5 u t H1 locs ht hvm hw hB hz1 hk1 hS => ?_)
  obtain ⟨x1, x2, x3, x4⟩ := u
  obtain ⟨hP1, hK1, hD1⟩ := hB
  rw [ht] at hP1
  obtain ⟨hP, hD⟩ := va_joinN (wr := (wd00_26 a0 jjj jkY jjj cyI jkG)) (w1 := (wd00_31 a1 jbF jb3 x1 x4 jcI x2 x3 jbF cyB jcq)) (wn := (wd00_40 a0 jjj jkY a1 jbF jb3 x1 x4 jcI x2 x3 jbF cyB jcq jjj cyI jkG)) hP hD [1, 2] [0, 3] [0, 2, 3, 1] hCc rfl (by decide +kernel) (by decide +kernel) (by decide +kernel) rfl hk1 hFc hP1 hD1
  generalize H1 = H at hP hS ⊢
  refine lv_istore_n (lv' := [(3, .int r5), (0, .ref a0), (1, .ref a1), (2, .int p2)]) hx hb (dt_of tkX0_readLine_k0 6 rfl) rfl hl (by decide) rfl (fun ls hl => ?_)
  refine lv_iload_n hx hb (dt_of tkX0_readLine_k0 7 rfl) rfl (lv_at hl 0 rfl) ?_
  refine lv_iconst (v := 0) hx hb (dt_of tkX0_readLine_k0 8 rfl) (by decide) ?_
  refine lv_iload_n hx hb (dt_of tkX0_readLine_k0 9 rfl) rfl (lv_at hl 3 rfl) ?_
  refine lv_iconst (v := 1) hx hb (dt_of tkX0_readLine_k0 10 rfl) (by decide) ?_
  refine lv_isub hx hb (dt_of tkX0_readLine_k0 11 rfl) ?_
  obtain ⟨hCc, hPc, hDc, hFc⟩ := va_pick (ws' := []) hP hD hS hA [] (by decide +kernel) rfl
  refine va_calli (va_runSN (As := [.int r5, .int 0, .int (p2 - 1)]) (rest := []) ⟨hx, hb, hml, hown, hts⟩ (ck_X10_within l dC dI cyB cyI cyJ cyP  H.size    r5 0 (p2 - 1) hw) ⟨(va_cnB 3 hts gX0_readLine_X10_within_n39 rfl rfl rfl (nw_7 hNw) (hts _ uw_X0_readLine_iniRX10) (by decide +kernel) ⟨Nat.le_of_ble_eq_true rfl, Nat.le_of_ble_eq_true rfl⟩), (hts _ uw_X0_readLine_stX10_within), trivial⟩ ⟨cPc_blind, cPc_pre hPc hK hDc hNw⟩ rfl rfl hl.1 rfl (lv_room (Nat.le_of_ble_eq_true rfl)) (dt_of tkX0_readLine_k0 12 rfl) ⟨Nat.le_of_ble_eq_true rfl, Nat.le_of_ble_eq_true rfl⟩) hS (fun q _ h => hFc q h) hFc (fun r6 u t H1 locs ht hvm hw hB hz1 hk1 hS => ?_)
  obtain ⟨hP1, hK1, hD1⟩ := hB
  rw [ht] at hP1
  obtain ⟨hP, hD⟩ := va_joinI (wr := (wd00_40 a0 jjj jkY a1 jbF jb3 x1 x4 jcI x2 x3 jbF cyB jcq jjj cyI jkG)) (w1 := []) (wn := (wd00_40 a0 jjj jkY a1 jbF jb3 x1 x4 jcI x2 x3 jbF cyB jcq jjj cyI jkG)) hP hD [] [0, 1, 2, 3] hCc rfl (by decide +kernel) (by decide +kernel) rfl hk1 hFc hP1 hD1
  generalize H1 = H at hP hS ⊢
  refine lv_if_eq (tgt := 33) hx hb (dt_of tkX0_readLine_k0 13 rfl) (by decide) (fun c7 => ?_) (fun c7 => ?_)
  · have hw := hw.1 c7
    exact kb_X0_readLine_33 dC dI cyB cyI cyJ cyP a0 a1 jbF jjj jcI jb3 jcq Q  C0 _ _ _ x1 x2 x3 x4 jkG jkY r5 hP hD hS (lv_sub hl [1, 2, 0] rfl) hw
  · have hw := hw.2 c7
    refine lv_aload_n hx hb (dt_of tkX0_readLine_k0 14 rfl) rfl (lv_at hl 1 rfl) ?_
    refine lv_iload_n hx hb (dt_of tkX0_readLine_k0 15 rfl) rfl (lv_at hl 0 rfl) ?_
    obtain ⟨hCc, hPc, hDc, hFc⟩ := va_pick (ws' := (wd00_26 a0 jjj jkY jjj cyI jkG)) hP hD hS hA [0, 3] (by decide +kernel) rfl
    refine va_calli (va_runV (As := [.int r5]) (rest := []) ⟨hx, hb, hml, hown, hts⟩ (ck_X0_tells l dC dI cyB cyI cyJ cyP a0 jjj H.size (.int jkY) jkG  r5 hw) (cwV 1 hts gX0_readLine_X0_tells rfl rfl rfl (by decide +kernel) ⟨Nat.le_of_ble_eq_true rfl, Nat.le_of_ble_eq_true rfl⟩) ⟨cPc_blind, va_recv (q := (RX0, TX0, 2)) hK hPc (ci := 0) (q0 := 0) rfl rfl, cPc_pre hPc hK hDc hNw⟩ rfl rfl hl.1 rfl (lv_room (Nat.le_of_ble_eq_true rfl)) (dt_of tkX0_readLine_k22 0 rfl) ⟨Nat.le_of_ble_eq_true rfl, Nat.le_of_ble_eq_true rfl⟩) hS (fun q _ h => hFc q h) hFc (fun r8 u t H1 locs ht hvm hw hB hz1 hk1 hS => ?_)
    obtain ⟨hP1, hK1, hD1⟩ := hB
    rw [ht] at hP1
    obtain ⟨hP, hD⟩ := va_joinN (wr := (wd00_31 a1 jbF jb3 x1 x4 jcI x2 x3 jbF cyB jcq)) (w1 := (wd00_26 a0 jjj jkY jjj cyI jkG)) (wn := (wd00_40 a0 jjj jkY a1 jbF jb3 x1 x4 jcI x2 x3 jbF cyB jcq jjj cyI jkG)) hP hD [0, 3] [1, 2] [2, 0, 1, 3] hCc rfl (by decide +kernel) (by decide +kernel) (by decide +kernel) rfl hk1 hFc hP1 hD1
    generalize H1 = H at hP hS ⊢
    refine lv_if_eq (tgt := 33) hx hb (dt_of tkX0_readLine_k22 1 rfl) (by decide) (fun c9 => ?_) (fun c9 => ?_)
    · have hw := hw.1 c9
      exact kb_X0_readLine_33 dC dI cyB cyI cyJ cyP a0 a1 jbF jjj jcI jb3 jcq Q  C0 _ _ _ x1 x2 x3 x4 jkG jkY r5 hP hD hS (lv_sub hl [1, 2, 0] rfl) hw
    · have hw := hw.2 c9
      refine lv_aload_n hx hb (dt_of tkX0_readLine_k22 2 rfl) rfl (lv_at hl 2 rfl) ?_
      refine lv_iconst (v := 2) hx hb (dt_of tkX0_readLine_k22 3 rfl) (by decide) ?_
      obtain ⟨hCc, hPc, hDc, hFc⟩ := va_pick (ws' := (wd00_32 a1 jbF jb3 x1 x4 jcI x2 x3)) hP hD hS hA [1] (by decide +kernel) rfl
      refine va_callv (va_runV (As := [.int 2]) (rest := []) ⟨hx, hb, hml, hown, hts⟩ (ck_X8_blameToken l dC dI cyB cyI cyJ cyP a1 H.size (.ref jbF) (.int jb3) (.int x1) (jcI) x4 x2 x3 2 hw) (cwV 1 hts gX0_readLine_X8_blameToken rfl rfl rfl (by decide +kernel) ⟨Nat.le_of_ble_eq_true rfl, Nat.le_of_ble_eq_true rfl⟩) ⟨cPc_blind, va_recv (q := (RX8, TX8, 7)) hK hPc (ci := 8) (q0 := 0) rfl rfl, cPc_pre hPc hK hDc hNw⟩ rfl rfl hl.1 rfl (lv_room (Nat.le_of_ble_eq_true rfl)) (dt_of tkX0_readLine_k22 4 rfl) ⟨Nat.le_of_ble_eq_true rfl, Nat.le_of_ble_eq_true rfl⟩) hS (fun q _ h => hFc q h) hFc (fun u t H1 locs ht hvm hw hB hz1 hk1 hS => ?_)
      obtain ⟨x10, x11⟩ := u
      obtain ⟨hP1, hK1, hD1⟩ := hB
      rw [ht] at hP1
      obtain ⟨hP, hD⟩ := va_joinN (wr := (wd00_41 a0 jjj jkY jbF cyB jcq jjj cyI jkG)) (w1 := (wd00_32 a1 jbF jb3 x1 x4 jcI x10 x11)) (wn := (wd00_40 a0 jjj jkY a1 jbF jb3 x1 x4 jcI x10 x11 jbF cyB jcq jjj cyI jkG)) hP hD [1] [0, 2, 3] [0, 3, 1, 2] hCc rfl (by decide +kernel) (by decide +kernel) (by decide +kernel) rfl hk1 hFc hP1 hD1
      generalize H1 = H at hP hS ⊢
      exact kb_X0_readLine_33 dC dI cyB cyI cyJ cyP a0 a1 jbF jjj jcI jb3 jcq Q  C0 _ _ _ x1 x10 x11 x4 jkG jkY r5 hP hD hS (lv_sub hl [1, 2, 0] rfl) hw
set_option maxHeartbeats 4000000 in
set_option maxRecDepth 100000 in
theorem kl_X0_readFrom_6 {p : Program} {l : Launch} {e : Env} {s : State} {m : MethodId} {args : Array Value} {below : List Frame} {meth : Method} {c : Code} {A : Nat → Prop} (dC : Nat → ClassId) (dI : Nat → Nat → Nat) (cyB cyI cyJ cyP : ClassId) (a0 a1 jjj jbF : Nat) (jcI : Value) (jb3 : Int32) (jcq : Nat → Int32) (Q : Int32 → (Nat → Int32) → Int32 → Int32 → Int32 → Int32 → Prop)  (C0 : cfx p s m args meth c cX0_readFrom none wsX0_readFrom RX0 4 A (dC, dI) (kT cyB cyI cyJ cyP)) : ∀ (n : Nat) (H : Heap) (locs : List Loc) (ls : Array Slot) (jkY : Int32) (jkG : Nat → Int32) (jhS jcU jbM jeF l2 l3 : Int32), va_P (dC, dI) vwCl (wd00_42 a0 jjj jkY jjj cyI jkG a1 jbF jb3 jhS jeF jcI jcU jbM jbF cyB jcq) H → va_D A (wd00_42 a0 jjj jkY jjj cyI jkG a1 jbF jb3 jhS jeF jcI jcU jbM jbF cyB jcq) → va_S A s.heap H locs → lv_has ls 4 [(0, .ref a0), (1, .ref a1), (2, .int l2), (3, .int l3)] → wl_X0_readFrom_6 jb3 jcq Q  n jkY jkG jhS jcU jbM jeF l2 l3 → W p l e (headSpec wsX0_readFrom ({ frames := 4, cells := 0, slots := 0, locals := 87 })).room s m args below meth c H locs 0 0 (MQ below (va_Qv (fun (u : Int32 × (Nat → Int32) × Int32 × Int32 × Int32 × Int32) => Q u.1 u.2.1 u.2.2.1 u.2.2.2.1 u.2.2.2.2.1 u.2.2.2.2.2) (cB (dC, dI) (kT cyB cyI cyJ cyP) A (fun u : Int32 × (Nat → Int32) × Int32 × Int32 × Int32 × Int32 => ((wd00_42 a0 jjj u.1 jjj cyI u.2.1 a1 jbF jb3 u.2.2.1 u.2.2.2.2.2 jcI u.2.2.2.1 u.2.2.2.2.1 jbF cyB jcq) : va_W))) A) args s 0 0 A) (F0 m 6 ls []) := by
  obtain ⟨hx, hb, hr, hts, hown, hlocks, hml, hA, hK, hNw⟩ := id C0
  intro n
  induction n with
  | zero => intro H locs ls jkY jkG jhS jcU jbM jeF l2 l3 hP hD hS hl hw; exact False.elim hw
  | succ n ih =>
    intro H locs ls jkY jkG jhS jcU jbM jeF l2 l3 hP hD hS hl hw
    refine lv_iload_n hx hb (dt_of tkX0_readFrom_k0 4 rfl) rfl (lv_at hl 3 rfl) ?_
    refine lv_bipush (v := 8) hx hb (dt_of tkX0_readFrom_k0 5 rfl) (by decide) ?_
    refine lv_icmp_gt (tgt := 38) hx hb (dt_of tkX0_readFrom_k0 6 rfl) (by decide) (fun c3 => ?_) (fun c3 => ?_)
    · have hw := hw.1 c3
      exact ((W.vret hx hb hr (fun t ht hW => ⟨⟨(jkY, jkG, jhS, jcU, jbM, jeF), rfl, hw, by rw [ht]; exact hP, va_K.moved hW.alike hK, hD⟩, hS.F ht⟩) hS.2.2 (dt_of tkX0_readFrom_k29 3 rfl)))
    · have hw := hw.2 c3
      refine lv_aload_n hx hb (dt_of tkX0_readFrom_k0 7 rfl) rfl (lv_at hl 1 rfl) ?_
      obtain ⟨hCc, hPc, hDc, hFc⟩ := va_pick (ws' := (wd00_32 a1 jbF jb3 jhS jeF jcI jcU jbM)) hP hD hS hA [2] (by decide +kernel) rfl
      refine va_calli (va_runV (As := []) (rest := []) ⟨hx, hb, hml, hown, hts⟩ (ck_X8_isFaulty l dC dI cyB cyI cyJ cyP a1 H.size (.ref jbF) (.int jb3) (.int jhS) (.int jeF) (jcI) (.int jbM) jcU   hw) (cwV 0 hts gX0_readFrom_X8_isFaulty rfl rfl rfl (by decide +kernel) ⟨Nat.le_of_ble_eq_true rfl, Nat.le_of_ble_eq_true rfl⟩) ⟨cPc_blind, va_recv (q := (RX8, TX8, 7)) hK hPc (ci := 8) (q0 := 0) rfl rfl, cPc_pre hPc hK hDc hNw⟩ rfl rfl hl.1 rfl (lv_room (Nat.le_of_ble_eq_true rfl)) (dt_of tkX0_readFrom_k0 8 rfl) ⟨Nat.le_of_ble_eq_true rfl, Nat.le_of_ble_eq_true rfl⟩) hS (fun q _ h => hFc q h) hFc (fun r4 u t H1 locs ht hvm hw hB hz1 hk1 hS => ?_)
      obtain ⟨hP1, hK1, hD1⟩ := hB
      rw [ht] at hP1
      obtain ⟨hP, hD⟩ := va_joinN (wr := [(a0, .inr (0, [.ref jjj, .int jkY])), (jjj, .inl (cyI, 8, .inl jkG)), (jbF, .inl (cyB, 600, .inl jcq))]) (w1 := (wd00_32 a1 jbF jb3 jhS jeF jcI jcU jbM)) (wn := (wd00_42 a0 jjj jkY jjj cyI jkG a1 jbF jb3 jhS jeF jcI jcU jbM jbF cyB jcq)) hP hD [2] [0, 1, 3] [0, 1, 3, 2] hCc rfl (by decide +kernel) (by decide +kernel) (by decide +kernel) rfl hk1 hFc hP1 hD1
      generalize H1 = H at hP hS ⊢
      refine lv_if_ne (tgt := 38) hx hb (dt_of tkX0_readFrom_k0 9 rfl) (by decide) (fun c5 => ?_) (fun c5 => ?_)
      · have hw := hw.1 c5
        exact ((W.vret hx hb hr (fun t ht hW => ⟨⟨(jkY, jkG, jhS, jcU, jbM, jeF), rfl, hw, by rw [ht]; exact hP, va_K.moved hW.alike hK, hD⟩, hS.F ht⟩) hS.2.2 (dt_of tkX0_readFrom_k29 3 rfl)))
      · have hw := hw.2 c5
        refine lv_aload_n hx hb (dt_of tkX0_readFrom_k0 10 rfl) rfl (lv_at hl 1 rfl) ?_
        obtain ⟨hCc, hPc, hDc, hFc⟩ := va_pick (ws' := (wd00_31 a1 jbF jb3 jhS jeF jcI jcU jbM jbF cyB jcq)) hP hD hS hA [2, 3] (by decide +kernel) rfl
        refine va_calli (va_runV (As := []) (rest := []) ⟨hx, hb, hml, hown, hts⟩ (ck_X8_isEnded l dC dI cyB cyI cyJ cyP a1 jbF H.size (.int jeF) (jcI) (.int jcU) (.int jbM) jb3 jcq jhS  hw) (cwV 0 hts gX0_readFrom_X8_isEnded rfl rfl rfl (by decide +kernel) ⟨Nat.le_of_ble_eq_true rfl, Nat.le_of_ble_eq_true rfl⟩) ⟨cPc_blind, va_recv (q := (RX8, TX8, 7)) hK hPc (ci := 8) (q0 := 0) rfl rfl, cPc_pre hPc hK hDc hNw⟩ rfl rfl hl.1 rfl (lv_room (Nat.le_of_ble_eq_true rfl)) (dt_of tkX0_readFrom_k0 11 rfl) ⟨Nat.le_of_ble_eq_true rfl, Nat.le_of_ble_eq_true rfl⟩) hS (fun q _ h => hFc q h) hFc (fun r7 u t H1 locs ht hvm hw hB hz1 hk1 hS => ?_)
        obtain ⟨x6, rfl⟩ : ∃ z, z = u := ⟨_, rfl⟩
        obtain ⟨hP1, hK1, hD1⟩ := hB
        rw [ht] at hP1
        obtain ⟨hP, hD⟩ := va_joinI (wr := (wd00_26 a0 jjj jkY jjj cyI jkG)) (w1 := (wd00_31 a1 jbF jb3 x6 jeF jcI jcU jbM jbF cyB jcq)) (wn := (wd00_42 a0 jjj jkY jjj cyI jkG a1 jbF jb3 x6 jeF jcI jcU jbM jbF cyB jcq)) hP hD [2, 3] [0, 1] hCc rfl (by decide +kernel) (by decide +kernel) rfl hk1 hFc hP1 hD1
        generalize H1 = H at hP hS ⊢
        refine lv_if_ne (tgt := 38) hx hb (dt_of tkX0_readFrom_k0 12 rfl) (by decide) (fun c8 => ?_) (fun c8 => ?_)
        · have hw := hw.1 c8
          exact ((W.vret hx hb hr (fun t ht hW => ⟨⟨(jkY, jkG, x6, jcU, jbM, jeF), rfl, hw, by rw [ht]; exact hP, va_K.moved hW.alike hK, hD⟩, hS.F ht⟩) hS.2.2 (dt_of tkX0_readFrom_k29 3 rfl)))
        · have hw := hw.2 c8
          refine lv_aload_n hx hb (dt_of tkX0_readFrom_k0 13 rfl) rfl (lv_at hl 0 rfl) ?_
          refine lv_aload_n hx hb (dt_of tkX0_readFrom_k0 14 rfl) rfl (lv_at hl 1 rfl) ?_
          refine lv_iload_n hx hb (dt_of tkX0_readFrom_k0 15 rfl) rfl (lv_at hl 2 rfl) ?_
          obtain ⟨hCc, hPc, hDc, hFc⟩ := va_pick (ws' := (wd00_40 a0 jjj jkY a1 jbF jb3 x6 jeF jcI jcU jbM jbF cyB jcq jjj cyI jkG)) hP hD hS hA [0, 2, 3, 1] (by decide +kernel) rfl
          refine va_callv (va_runV (As := [.ref a1, .int l2]) (rest := []) ⟨hx, hb, hml, hown, hts⟩ (ck_X0_readLine l dC dI cyB cyI cyJ cyP a0 a1 jbF jjj H.size (jcI) jb3 jcq x6 jcU jbM jeF jkG jkY l2 hw) (cwV 2 hts gX0_readFrom_X0_readLine rfl rfl rfl (by decide +kernel) ⟨Nat.le_of_ble_eq_true rfl, Nat.le_of_ble_eq_true rfl⟩) ⟨cPc_blind, va_recv (q := (RX0, TX0, 2)) hK hPc (ci := 0) (q0 := 0) rfl rfl, cPc_pre hPc hK hDc hNw⟩ rfl rfl hl.1 rfl (lv_room (Nat.le_of_ble_eq_true rfl)) (dt_of tkX0_readFrom_k29 0 rfl) ⟨Nat.le_of_ble_eq_true rfl, Nat.le_of_ble_eq_true rfl⟩) hS (fun q _ h => hFc q h) hFc (fun u t H1 locs ht hvm hw hB hz1 hk1 hS => ?_)
          obtain ⟨x9, x10, x11, x12, f13, x14⟩ := u
          obtain ⟨hP1, hK1, hD1⟩ := hB
          rw [ht] at hP1
          obtain ⟨hP, hD⟩ := va_joinN (wr := []) (w1 := (wd00_40 a0 jjj x14 a1 jbF jb3 x9 x12 jcI x10 x11 jbF cyB jcq jjj cyI f13)) (wn := (wd00_42 a0 jjj x14 jjj cyI f13 a1 jbF jb3 x9 x12 jcI x10 x11 jbF cyB jcq)) hP hD [0, 2, 3, 1] [] [0, 3, 1, 2] hCc rfl (by decide +kernel) (by decide +kernel) (by decide +kernel) rfl hk1 hFc hP1 hD1
          generalize H1 = H at hP hS ⊢
          obtain ⟨x15, ex15⟩ : ∃ y : Int32, y = l3 + 1 := ⟨_, rfl⟩
          have hw := hw x15 ex15
          refine lv_iinc (v := x15) (lv' := [(3, .int x15), (0, .ref a0), (1, .ref a1), (2, .int l2)]) hx hb (dt_of tkX0_readFrom_k29 1 rfl) hl (k := 3) rfl (by rw [ex15]; rfl) (by decide) rfl (fun ls hl => ?_)
          refine lv_goto (tgt := 6) hx hb (dt_of tkX0_readFrom_k29 2 rfl) (by decide) ?_
          exact ih _ _ _ x14 f13 x9 x10 x11 x12 l2 x15 hP hD hS (lv_sub hl [1, 2, 3, 0] rfl) hw
set_option maxHeartbeats 4000000 in
set_option maxRecDepth 100000 in
theorem ck_X0_readFrom (l : Launch) (dC : Nat → ClassId) (dI : Nat → Nat → Nat) (cyB cyI cyJ cyP : ClassId) (a0 a1 jjj jbF sz : Nat) (jcI : Value) (jb3 : Int32) (jcq : Nat → Int32) (jkY : Int32) (jkG : Nat → Int32) (jhS jcU jbM jeF p2 : Int32) {Q : Int32 → (Nat → Int32) → Int32 → Int32 → Int32 → Int32 → Prop} (hw : wq_X0_readFrom jb3 jcq jkY jkG jhS jcU jbM jeF p2 Q) : Met l yX0_readFrom wsX0_readFrom ({ frames := 4, cells := 0, slots := 0, locals := 87 }) (va_Pc [.ref a0, .ref a1, .int p2] (cPc (dC, dI) (kT cyB cyI cyJ cyP) (wd00_42 a0 jjj jkY jjj cyI jkG a1 jbF jb3 jhS jeF jcI jcU jbM jbF cyB jcq) sz)) (va_Qv (fun (u : Int32 × (Nat → Int32) × Int32 × Int32 × Int32 × Int32) => Q u.1 u.2.1 u.2.2.1 u.2.2.2.1 u.2.2.2.2.1 u.2.2.2.2.2) (cB (dC, dI) (kT cyB cyI cyJ cyP) (va_A (wd00_42 a0 jjj jkY jjj cyI jkG a1 jbF jb3 jhS jeF jcI jcU jbM jbF cyB jcq) sz) (fun u : Int32 × (Nat → Int32) × Int32 × Int32 × Int32 × Int32 => ((wd00_42 a0 jjj u.1 jjj cyI u.2.1 a1 jbF jb3 u.2.2.1 u.2.2.2.2.2 jcI u.2.2.2.1 u.2.2.2.2.1 jbF cyB jcq) : va_W))) (va_A (wd00_42 a0 jjj jkY jjj cyI jkG a1 jbF jb3 jhS jeF jcI jcU jbM jbF cyB jcq) sz)) 0 0 (va_A (wd00_42 a0 jjj jkY jjj cyI jkG a1 jbF jb3 jhS jeF jcI jcU jbM jbF cyB jcq) sz) := by
  refine Met.ofW (cc := cX0_readFrom) (maxL := 4) (ret := none) (by decide) rfl ?_
  intro p e s m args below meth c s₁ B hml hv
  obtain ⟨rfl, hsz, hP, hK, hD0, hNw⟩ := hv
  have hx := B.exec
  have hb := B.bytes
  have hr := B.returns
  have hts := atoms_spec (ws := wsX0_readFrom) B.pre
  have hown : s.vm.findClass RX0 = some m.cls := findClass_of_methodNamed B.named
  have hlocks := B.notSynchronized
  subst hsz
  have hD := hD0.self (sz := s.heap.size)
  generalize hAe : va_A (wd00_42 a0 jjj jkY jjj cyI jkG a1 jbF jb3 jhS jeF jcI jcU jbM jbF cyB jcq) s.heap.size = A at hD ⊢
  have hA : ∀ q : Nat, s.heap.size ≤ q → A q := fun q h => by rw [← hAe]; exact Or.inr h
  have hS : va_S A s.heap s.heap [] := va_S.rf
  have hP : va_P (dC, dI) vwCl (wd00_42 a0 jjj jkY jjj cyI jkG a1 jbF jb3 jhS jeF jcI jcU jbM jbF cyB jcq) s.heap := hP
  have hl := lv_entry ([.ref a0, .ref a1, .int p2]) (n := 4) (Nat.le_of_ble_eq_true rfl)
  rw [lg_entry_eq]
  generalize (lg_sl ([.ref a0, .ref a1, .int p2]) ++ List.replicate (4 - (lg_sl ([.ref a0, .ref a1, .int p2])).length) Slot.unset).toArray = ls at hl ⊢
  have hl : lv_has ls 4 [(0, .ref a0), (1, .ref a1), (2, .int p2)] := hl
  have C0 : cfx p s m _ meth c cX0_readFrom none wsX0_readFrom RX0 4 A (dC, dI) (kT cyB cyI cyJ cyP) := ⟨hx, hb, hr, hts, hown, hlocks, hml, hA, hK, hNw⟩
  clear hAe
  obtain ⟨H, hH⟩ : ∃ H, H = s.heap := ⟨_, rfl⟩
  rw [← hH] at hP ⊢
  have hS : va_S A s.heap H [] := by rw [hH]; exact va_S.rf
  have hS := hS
  refine lv_aload_n hx hb (dt_of tkX0_readFrom_k0 0 rfl) rfl (lv_at hl 0 rfl) ?_
  obtain ⟨hCc, hPc, hDc, hFc⟩ := va_pick (ws' := (wd00_26 a0 jjj jkY jjj cyI jkG)) hP hD hS hA [0, 1] (by decide +kernel) rfl
  refine va_callv (va_runV (As := []) (rest := []) ⟨hx, hb, hml, hown, hts⟩ (ck_X0_clear l dC dI cyB cyI cyJ cyP a0 jjj H.size   jkY jkG  hw) (cwV 0 hts gX0_readFrom_X0_clear rfl rfl rfl (by decide +kernel) ⟨Nat.le_of_ble_eq_true rfl, Nat.le_of_ble_eq_true rfl⟩) ⟨cPc_blind, va_recv (q := (RX0, TX0, 2)) hK hPc (ci := 0) (q0 := 0) rfl rfl, cPc_pre hPc hK hDc hNw⟩ rfl rfl hl.1 rfl (lv_room (Nat.le_of_ble_eq_true rfl)) (dt_of tkX0_readFrom_k0 1 rfl) ⟨Nat.le_of_ble_eq_true rfl, Nat.le_of_ble_eq_true rfl⟩) hS (fun q _ h => hFc q h) hFc (fun u t H1 locs ht hvm hw hB hz1 hk1 hS => ?_)
  obtain ⟨x1, f2⟩ := u
  obtain ⟨hP1, hK1, hD1⟩ := hB
  rw [ht] at hP1
  obtain ⟨hP, hD⟩ := va_joinN (wr := (wd00_31 a1 jbF jb3 jhS jeF jcI jcU jbM jbF cyB jcq)) (w1 := (wd00_26 a0 jjj x1 jjj cyI f2)) (wn := (wd00_42 a0 jjj x1 jjj cyI f2 a1 jbF jb3 jhS jeF jcI jcU jbM jbF cyB jcq)) hP hD [0, 1] [2, 3] [2, 3, 0, 1] hCc rfl (by decide +kernel) (by decide +kernel) (by decide +kernel) rfl hk1 hFc hP1 hD1
  generalize H1 = H at hP hS ⊢
  refine lv_iconst (v := 0) hx hb (dt_of tkX0_readFrom_k0 2 rfl) (by decide) ?_
  refine lv_istore_n (lv' := [(3, .int 0), (0, .ref a0), (1, .ref a1), (2, .int p2)]) hx hb (dt_of tkX0_readFrom_k0 3 rfl) rfl hl (by decide) rfl (fun ls hl => ?_)
  obtain ⟨n9, hw⟩ := hw
  exact kl_X0_readFrom_6 dC dI cyB cyI cyJ cyP a0 a1 jjj jbF jcI jb3 jcq Q  C0 n9 _ _ _ x1 f2 jhS jcU jbM jeF p2 0 hP hD hS (lv_sub hl [1, 2, 3, 0] rfl) hw
theorem ui_X10_book_X0 : ∀ w ∈ u_ws RX0 TX0 2, w ∈ wsX10_book := uiM mbX10_book euX0 (by decide +kernel)
theorem ui_X10_book_X10 : ∀ w ∈ u_ws RX10 TX10 19, w ∈ wsX10_book := uiM mbX10_book euX10 (by decide +kernel)
theorem ui_X10_book_X2 : ∀ w ∈ u_ws RX2 TX2 12, w ∈ wsX10_book := uiM mbX10_book euX2 (by decide +kernel)
theorem ui_X10_book_X8 : ∀ w ∈ u_ws RX8 TX8 7, w ∈ wsX10_book := uiM mbX10_book euX8 (by decide +kernel)
theorem uw_X10_book_f10 : (.fieldLink RX10 10 "MarchHares" "tape" "LMarchHares$Tape;" : Cond) ∈ wsX10_book := mbX10_book 16 (by decide +kernel)
theorem uw_X10_book_f120 : (.fieldLink RX10 120 "MarchHares$Tape" "fault" "I" : Cond) ∈ wsX10_book := mbX10_book 640 (by decide +kernel)
theorem uw_X10_book_f149 : (.fieldLink RX10 149 "MarchHares$Down" "forms" "I" : Cond) ∈ wsX10_book := mbX10_book 1557 (by decide +kernel)
theorem uw_X10_book_f171 : (.fieldLink RX10 171 "MarchHares$Book" "many" "I" : Cond) ∈ wsX10_book := mbX10_book 2386 (by decide +kernel)
theorem uw_X10_book_f19 : (.fieldLink RX10 19 "MarchHares" "ground" "LMarchHares$Down;" : Cond) ∈ wsX10_book := mbX10_book 20 (by decide +kernel)
theorem uw_X10_book_f39 : (.fieldLink RX10 39 "MarchHares" "lines" "LMarchHares$Book;" : Cond) ∈ wsX10_book := mbX10_book 70 (by decide +kernel)
theorem uw_X10_book_f43 : (.fieldLink RX10 43 "MarchHares" "spareLines" "LMarchHares$Book;" : Cond) ∈ wsX10_book := mbX10_book 71 (by decide +kernel)
set_option maxHeartbeats 4000000 in
set_option maxRecDepth 100000 in
theorem ck_X10_book (l : Launch) (dC : Nat → ClassId) (dI : Nat → Nat → Nat) (cyB cyI cyJ cyP : ClassId) (a0 jaW jiZ jaR jlH jfZ jg2 sz : Nat) (ja1 jcp jbc jbH ja2 jbO jaq jac jbI jbl jbn jba jaa jbA jcB jcC jbo jbp jbk jbj jbe jbq jgP jbi jcd : Value) (jbE : Int32) (ji4 : Nat → Int32) (jbz jk4 jlW jll jj0 jlm jjE jnH : Int32) (jnI : Nat → Int32) (p1 : Int32) {E : String → Int32 → Int32 → Int32 → Int32 → Int32 → Int32 → Int32 → Int32 → (Nat → Int32) → Value → Value → Prop} {Q : Int32 → Int32 → Int32 → Int32 → Int32 → Int32 → Int32 → Int32 → Int32 → (Nat → Int32) → Value → Value → Prop} (hw : wq_X10_book jg2 jiZ jbE ji4 jbz jk4 jlW jll jj0 jlm jjE jnH jnI (.ref jg2) (.ref jiZ) p1 E Q) : vx_Met l yX10_book wsX10_book ({ frames := 9, cells := 1, slots := 6, locals := 186 }) (va_Pc [.ref a0, .int p1] (cPx l (dC, dI) (kT cyB cyI cyJ cyP) (wd00_43 a0 jaW jaR ja1 jcp jbc jg2 jiZ jbH ja2 jbO jaq jac jbI jbl jbn jba jaa jbA jbz jaW jfZ jk4 jlW jll jj0 jlm jjE jaR jcB jcC jbo jbp jbk jbj jbe jbq jbE jgP jbi jcd jiZ jlH jnH jlH cyI jnI jfZ cyB ji4) sz)) (va_Qi (fun (r : Int32) (u : Int32 × Int32 × Int32 × Int32 × Int32 × Int32 × Int32 × Int32 × (Nat → Int32) × Value × Value) => Q r u.1 u.2.1 u.2.2.1 u.2.2.2.1 u.2.2.2.2.1 u.2.2.2.2.2.1 u.2.2.2.2.2.2.1 u.2.2.2.2.2.2.2.1 u.2.2.2.2.2.2.2.2.1 u.2.2.2.2.2.2.2.2.2.1 u.2.2.2.2.2.2.2.2.2.2) (cB (dC, dI) (kT cyB cyI cyJ cyP) (va_A (wd00_43 a0 jaW jaR ja1 jcp jbc jg2 jiZ jbH ja2 jbO jaq jac jbI jbl jbn jba jaa jbA jbz jaW jfZ jk4 jlW jll jj0 jlm jjE jaR jcB jcC jbo jbp jbk jbj jbe jbq jbE jgP jbi jcd jiZ jlH jnH jlH cyI jnI jfZ cyB ji4) sz) (fun u : Int32 × Int32 × Int32 × Int32 × Int32 × Int32 × Int32 × Int32 × (Nat → Int32) × Value × Value => ((wd00_44 a0 jaW jaR ja1 jcp jbc u.2.2.2.2.2.2.2.2.2.1 u.2.2.2.2.2.2.2.2.2.2 jbH ja2 jbO jaq jac jbI jbl jbn jba jaa jbA u.1 jaW jfZ u.2.1 u.2.2.1 u.2.2.2.1 u.2.2.2.2.1 u.2.2.2.2.2.1 u.2.2.2.2.2.2.1 jaR jcB jcC jbo jbp jbk jbj jbe jbq jbE jgP jbi jcd jiZ jlH u.2.2.2.2.2.2.2.1 jlH cyI u.2.2.2.2.2.2.2.2.1 jfZ cyB ji4) : va_W))) (va_A (wd00_43 a0 jaW jaR ja1 jcp jbc jg2 jiZ jbH ja2 jbO jaq jac jbI jbl jbn jba jaa jbA jbz jaW jfZ jk4 jlW jll jj0 jlm jjE jaR jcB jcC jbo jbp jbk jbj jbe jbq jbE jgP jbi jcd jiZ jlH jnH jlH cyI jnI jfZ cyB ji4) sz)) (vx_X (fun _ => True) (fun (en : String) (u : Int32 × Int32 × Int32 × Int32 × Int32 × Int32 × Int32 × Int32 × (Nat → Int32) × Value × Value) (t : State) => E en u.1 u.2.1 u.2.2.1 u.2.2.2.1 u.2.2.2.2.1 u.2.2.2.2.2.1 u.2.2.2.2.2.2.1 u.2.2.2.2.2.2.2.1 u.2.2.2.2.2.2.2.2.1 u.2.2.2.2.2.2.2.2.2.1 u.2.2.2.2.2.2.2.2.2.2 ∧ cB (dC, dI) (kT cyB cyI cyJ cyP) (va_A (wd00_43 a0 jaW jaR ja1 jcp jbc jg2 jiZ jbH ja2 jbO jaq jac jbI jbl jbn jba jaa jbA jbz jaW jfZ jk4 jlW jll jj0 jlm jjE jaR jcB jcC jbo jbp jbk jbj jbe jbq jbE jgP jbi jcd jiZ jlH jnH jlH cyI jnI jfZ cyB ji4) sz) (fun u : Int32 × Int32 × Int32 × Int32 × Int32 × Int32 × Int32 × Int32 × (Nat → Int32) × Value × Value => ((wd00_44 a0 jaW jaR ja1 jcp jbc u.2.2.2.2.2.2.2.2.2.1 u.2.2.2.2.2.2.2.2.2.2 jbH ja2 jbO jaq jac jbI jbl jbn jba jaa jbA u.1 jaW jfZ u.2.1 u.2.2.1 u.2.2.2.1 u.2.2.2.2.1 u.2.2.2.2.2.1 u.2.2.2.2.2.2.1 jaR jcB jcC jbo jbp jbk jbj jbe jbq jbE jgP jbi jcd jiZ jlH u.2.2.2.2.2.2.2.1 jlH cyI u.2.2.2.2.2.2.2.2.1 jfZ cyB ji4) : va_W)) u t) (va_A (wd00_43 a0 jaW jaR ja1 jcp jbc jg2 jiZ jbH ja2 jbO jaq jac jbI jbl jbn jba jaa jbA jbz jaW jfZ jk4 jlW jll jj0 jlm jjE jaR jcB jcC jbo jbp jbk jbj jbe jbq jbE jgP jbi jcd jiZ jlH jnH jlH cyI jnI jfZ cyB ji4) sz)) 1 6 (va_A (wd00_43 a0 jaW jaR ja1 jcp jbc jg2 jiZ jbH ja2 jbO jaq jac jbI jbl jbn jba jaa jbA jbz jaW jfZ jk4 jlW jll jj0 jlm jjE jaR jcB jcC jbo jbp jbk jbj jbe jbq jbE jgP jbi jcd jiZ jlH jnH jlH cyI jnI jfZ cyB ji4) sz) := by
  refine vx_ofW (cc := cX10_book) (maxL := 3) (ret := (some .int)) (by decide) rfl ?_
  intro p e s m args below meth c s₁ B hml hnt hv
  obtain ⟨rfl, hsz, hP, hK, hD0, hNw, hXl, hXu, hXn, hXt⟩ := hv
  have hx := B.exec
  have hb := B.bytes
  have hr := B.returns
  have hts := atoms_spec (ws := wsX10_book) B.pre
  have hown : s.vm.findClass RX10 = some m.cls := findClass_of_methodNamed B.named
  have hlocks := B.notSynchronized
  subst hsz
  have hD := hD0.self (sz := s.heap.size)
  generalize hAe : va_A (wd00_43 a0 jaW jaR ja1 jcp jbc jg2 jiZ jbH ja2 jbO jaq jac jbI jbl jbn jba jaa jbA jbz jaW jfZ jk4 jlW jll jj0 jlm jjE jaR jcB jcC jbo jbp jbk jbj jbe jbq jbE jgP jbi jcd jiZ jlH jnH jlH cyI jnI jfZ cyB ji4) s.heap.size = A at hD hXu hXn ⊢
  have hA : ∀ q : Nat, s.heap.size ≤ q → A q := fun q h => by rw [← hAe]; exact Or.inr h
  have hS : va_S A s.heap s.heap [] := va_S.rf
  have hP : va_P (dC, dI) vwCl (wd00_43 a0 jaW jaR ja1 jcp jbc jg2 jiZ jbH ja2 jbO jaq jac jbI jbl jbn jba jaa jbA jbz jaW jfZ jk4 jlW jll jj0 jlm jjE jaR jcB jcC jbo jbp jbk jbj jbe jbq jbE jgP jbi jcd jiZ jlH jnH jlH cyI jnI jfZ cyB ji4) s.heap := hP
  have hl := lv_entry ([.ref a0, .int p1]) (n := 3) (Nat.le_of_ble_eq_true rfl)
  rw [lg_entry_eq]
  generalize (lg_sl ([.ref a0, .int p1]) ++ List.replicate (3 - (lg_sl ([.ref a0, .int p1])).length) Slot.unset).toArray = ls at hl ⊢
  have hl : lv_has ls 3 [(0, .ref a0), (1, .int p1)] := hl
  have hY : cfY l s A := ⟨hXl, hXu, hXn, hXt⟩
  have hXs : cfX l s c A := ⟨hnt, hY⟩
  have C0 : cfx p s m _ meth c cX10_book (some .int) wsX10_book RX10 3 A (dC, dI) (kT cyB cyI cyJ cyP) ∧ cfX l s c A := ⟨⟨hx, hb, hr, hts, hown, hlocks, hml, hA, hK, hNw⟩, hXs⟩
  clear hAe
  obtain ⟨H, hH⟩ : ∃ H, H = s.heap := ⟨_, rfl⟩
  rw [← hH] at hP ⊢
  have hS : va_S A s.heap H [] := by rw [hH]; exact va_S.rf
  have hS := hS
  refine lv_aload_n hx hb (dt_of tkX10_book_k0 0 rfl) rfl (lv_at hl 0 rfl) ?_
  refine lv_iload_n hx hb (dt_of tkX10_book_k0 1 rfl) rfl (lv_at hl 1 rfl) ?_
  refine lv_bipush (v := 60) hx hb (dt_of tkX10_book_k0 2 rfl) (by decide) ?_
  obtain ⟨hCc, hPc, hDc, hFc⟩ := va_pick (ws' := (wd00_45 a0 jaW jaR ja1 jcp jbc jg2 jiZ jbH ja2 jbO jaq jac jbI jbl jbn jba jaa jbA jbz jaW jfZ jk4 jlW jll jj0 jlm jjE)) hP hD hS hA [0, 1] (by decide +kernel) rfl
  refine vx_callv (vx_runV (As := [.int p1, .int 60]) (rest := []) ⟨hx, hb, hml, hown, hts⟩ (ck_X10_openText l dC dI cyB cyI cyJ cyP a0 jaW H.size (.ref jaR) (ja1) (jcp) (jbc) (.ref jg2) (.ref jiZ) (jbH) (ja2) (jbO) (jaq) (jac) (jbI) (jbl) (jbn) (jba) (jaa) (jbA) (.ref jfZ)  jbz jk4 jlW jll jj0 jlm jjE p1 60 hw) (cwV 2 hts gX10_book_X10_openText rfl rfl rfl (by decide +kernel) ⟨Nat.le_of_ble_eq_true rfl, Nat.le_of_ble_eq_true rfl⟩) ⟨cPx_blind, va_recv (q := (RX10, TX10, 19)) hK hPc (ci := 10) (q0 := 0) rfl rfl, cPx_pre hPc hK hDc hNw hY hS hFc⟩ rfl rfl hl.1 rfl (lv_room (Nat.le_of_ble_eq_true rfl)) (dt_of tkX10_book_k0 3 rfl) ⟨Nat.le_of_ble_eq_true rfl, Nat.le_of_ble_eq_true rfl⟩) hS (fun q _ h => hFc q h) hFc (fun q _ h => hFc q h) (fun en ce q9 u t H1 locs ht hvm hpx hB hz1 hk1 hS hc9 hv9 hcl9 => ?_) (fun u t H1 locs ht hvm hw hB hz1 hk1 hS => ?_)
  · obtain ⟨x1, x2, x3, x4, x5, x6, x7⟩ := u
    obtain ⟨hw, hP1, hK1, hD1⟩ := hB
    rw [ht] at hP1
    obtain ⟨hP, hD⟩ := va_joinN (wr := (wd00_46 jaR jcB jcC jbo jbp jbk jbj jbe jbq jbE jgP jbi jcd jiZ jlH jnH jlH cyI jnI jfZ cyB ji4)) (w1 := (wd00_45 a0 jaW jaR ja1 jcp jbc jg2 jiZ jbH ja2 jbO jaq jac jbI jbl jbn jba jaa jbA x1 jaW jfZ x2 x3 x4 x5 x6 x7)) (wn := (wd00_43 a0 jaW jaR ja1 jcp jbc jg2 jiZ jbH ja2 jbO jaq jac jbI jbl jbn jba jaa jbA x1 jaW jfZ x2 x3 x4 x5 x6 x7 jaR jcB jcC jbo jbp jbk jbj jbe jbq jbE jgP jbi jcd jiZ jlH jnH jlH cyI jnI jfZ cyB ji4)) hP hD [0, 1] [2, 3, 4, 5] [4, 5, 0, 1, 2, 3] hCc rfl (by decide +kernel) (by decide +kernel) (by decide +kernel) rfl hk1 hFc hP1 hD1
    generalize H1 = H at hP hS hc9 ⊢
    exact vx_out (fun x hx9 => (hXs.1 x hx9).elim) hlocks hc9 hv9 hcl9 (fun t2 ht2 hal2 => ⟨(x1, x2, x3, x4, x5, x6, x7, jnH, jnI, (.ref jg2), (.ref jiZ)), trivial, ⟨hw, by rw [ht2]; exact hP, va_K.moved hal2 hK, hD⟩, hS.F ht2⟩) hS.2.2 (Nat.le_of_ble_eq_true rfl) (Nat.le_of_ble_eq_true rfl)
  obtain ⟨x1, x2, x3, x4, x5, x6, x7⟩ := u
  obtain ⟨hP1, hK1, hD1⟩ := hB
  rw [ht] at hP1
  obtain ⟨hP, hD⟩ := va_joinN (wr := (wd00_46 jaR jcB jcC jbo jbp jbk jbj jbe jbq jbE jgP jbi jcd jiZ jlH jnH jlH cyI jnI jfZ cyB ji4)) (w1 := (wd00_45 a0 jaW jaR ja1 jcp jbc jg2 jiZ jbH ja2 jbO jaq jac jbI jbl jbn jba jaa jbA x1 jaW jfZ x2 x3 x4 x5 x6 x7)) (wn := (wd00_43 a0 jaW jaR ja1 jcp jbc jg2 jiZ jbH ja2 jbO jaq jac jbI jbl jbn jba jaa jbA x1 jaW jfZ x2 x3 x4 x5 x6 x7 jaR jcB jcC jbo jbp jbk jbj jbe jbq jbE jgP jbi jcd jiZ jlH jnH jlH cyI jnI jfZ cyB ji4)) hP hD [0, 1] [2, 3, 4, 5] [4, 5, 0, 1, 2, 3] hCc rfl (by decide +kernel) (by decide +kernel) (by decide +kernel) rfl hk1 hFc hP1 hD1
  generalize H1 = H at hP hS ⊢
  refine lv_aload_n hx hb (dt_of tkX10_book_k0 4 rfl) rfl (lv_at hl 0 rfl) ?_
  refine va_get (D := (dC, dI)) (ci := 10) (v := .ref jiZ) (C := RX10) (T := TX10) (N := 19) hx hb hts ui_X10_book_X10 hown hK hP 0 rfl rfl 6 (by decide) (hts _ uw_X10_book_f43) (fun _ h9 => h9) rfl (dt_of tkX10_book_k0 5 rfl) ?_
  refine lv_aload_n hx hb (dt_of tkX10_book_k0 6 rfl) rfl (lv_at hl 0 rfl) ?_
  refine va_get (D := (dC, dI)) (ci := 10) (v := .ref jaW) (C := RX10) (T := TX10) (N := 19) hx hb hts ui_X10_book_X10 hown hK hP 0 rfl rfl 0 (by decide) (hts _ uw_X10_book_f10) (fun _ h9 => h9) rfl (dt_of tkX10_book_k0 7 rfl) ?_
  refine lv_aload_n hx hb (dt_of tkX10_book_k0 8 rfl) rfl (lv_at hl 0 rfl) ?_
  refine va_get (D := (dC, dI)) (ci := 10) (v := .ref jaR) (C := RX10) (T := TX10) (N := 19) hx hb hts ui_X10_book_X10 hown hK hP 0 rfl rfl 1 (by decide) (hts _ uw_X10_book_f19) (fun _ h9 => h9) rfl (dt_of tkX10_book_k0 9 rfl) ?_
  refine va_get (D := (dC, dI)) (ci := 2) (v := .int jbE) (C := RX2) (T := TX2) (N := 12) hx hb hts ui_X10_book_X2 hown hK hP 2 rfl rfl 8 (by decide) (hts _ uw_X10_book_f149) (fun _ h9 => h9) rfl (dt_of tkX10_book_k0 10 rfl) ?_
  obtain ⟨hCc, hPc, hDc, hFc⟩ := va_pick (ws' := (wd00_47 jiZ jlH jnH jlH cyI jnI jaW jfZ x2 x3 x4 x5 x6 x7 jfZ cyB ji4)) hP hD hS hA [3, 4, 1, 5] (by decide +kernel) rfl
  refine va_callv (va_runV (As := [.ref jaW, .int jbE]) (rest := []) ⟨hx, hb, hml, hown, hts⟩ (ck_X0_readFrom l dC dI cyB cyI cyJ cyP jiZ jaW jlH jfZ H.size (.int x5) x2 ji4 jnH jnI x3 x6 x7 x4 jbE hw) (cwV 2 hts gX10_book_X0_readFrom rfl rfl rfl (by decide +kernel) ⟨Nat.le_of_ble_eq_true rfl, Nat.le_of_ble_eq_true rfl⟩) ⟨cPc_blind, va_recv (q := (RX0, TX0, 2)) hK hPc (ci := 0) (q0 := 0) rfl rfl, cPc_pre hPc hK hDc hNw⟩ rfl rfl hl.1 rfl (lv_room (Nat.le_of_ble_eq_true rfl)) (dt_of tkX10_book_k0 11 rfl) ⟨Nat.le_of_ble_eq_true rfl, Nat.le_of_ble_eq_true rfl⟩) hS (fun q _ h => hFc q h) hFc (fun u t H1 locs ht hvm hw hB hz1 hk1 hS => ?_)
  obtain ⟨x8, f9, x10, x11, x12, x13⟩ := u
  obtain ⟨hP1, hK1, hD1⟩ := hB
  rw [ht] at hP1
  obtain ⟨hP, hD⟩ := va_joinN (wr := [(a0, .inr (10, [.ref jaW, .ref jaR, ja1, jcp, jbc, .ref jg2, .ref jiZ, jbH, ja2, jbO, jaq, jac, jbI, jbl, jbn, jba, jaa, jbA, .int x1])), (jaR, .inr (2, [jcB, jcC, jbo, jbp, jbk, jbj, jbe, jbq, .int jbE, jgP, jbi, jcd]))]) (w1 := (wd00_47 jiZ jlH x8 jlH cyI f9 jaW jfZ x2 x10 x13 x5 x11 x12 jfZ cyB ji4)) (wn := (wd00_43 a0 jaW jaR ja1 jcp jbc jg2 jiZ jbH ja2 jbO jaq jac jbI jbl jbn jba jaa jbA x1 jaW jfZ x2 x10 x13 x5 x11 x12 jaR jcB jcC jbo jbp jbk jbj jbe jbq jbE jgP jbi jcd jiZ jlH x8 jlH cyI f9 jfZ cyB ji4)) hP hD [3, 4, 1, 5] [0, 2] [0, 4, 1, 2, 3, 5] hCc rfl (by decide +kernel) (by decide +kernel) (by decide +kernel) rfl hk1 hFc hP1 hD1
  generalize H1 = H at hP hS ⊢
  refine lv_aload_n hx hb (dt_of tkX10_book_k0 12 rfl) rfl (lv_at hl 0 rfl) ?_
  refine va_get (D := (dC, dI)) (ci := 10) (v := .ref jaW) (C := RX10) (T := TX10) (N := 19) hx hb hts ui_X10_book_X10 hown hK hP 0 rfl rfl 0 (by decide) (hts _ uw_X10_book_f10) (fun _ h9 => h9) rfl (dt_of tkX10_book_k0 13 rfl) ?_
  obtain ⟨hCc, hPc, hDc, hFc⟩ := va_pick (ws' := (wd00_48 jaW jfZ x2 x10 x13 x5 x11 x12)) hP hD hS hA [1] (by decide +kernel) rfl
  refine va_calli (va_runV (As := []) (rest := []) ⟨hx, hb, hml, hown, hts⟩ (ck_X8_isFaulty l dC dI cyB cyI cyJ cyP jaW H.size (.ref jfZ) (.int x2) (.int x10) (.int x13) (.int x5) (.int x12) x11   hw) (cwV 0 hts gX10_book_X8_isFaulty rfl rfl rfl (by decide +kernel) ⟨Nat.le_of_ble_eq_true rfl, Nat.le_of_ble_eq_true rfl⟩) ⟨cPc_blind, va_recv (q := (RX8, TX8, 7)) hK hPc (ci := 8) (q0 := 0) rfl rfl, cPc_pre hPc hK hDc hNw⟩ rfl rfl hl.1 rfl (lv_room (Nat.le_of_ble_eq_true rfl)) (dt_of tkX10_book_k0 14 rfl) ⟨Nat.le_of_ble_eq_true rfl, Nat.le_of_ble_eq_true rfl⟩) hS (fun q _ h => hFc q h) hFc (fun r14 u t H1 locs ht hvm hw hB hz1 hk1 hS => ?_)
  obtain ⟨hP1, hK1, hD1⟩ := hB
  rw [ht] at hP1
  obtain ⟨hP, hD⟩ := va_joinN (wr := [(a0, .inr (10, [.ref jaW, .ref jaR, ja1, jcp, jbc, .ref jg2, .ref jiZ, jbH, ja2, jbO, jaq, jac, jbI, jbl, jbn, jba, jaa, jbA, .int x1])), (jaR, .inr (2, [jcB, jcC, jbo, jbp, jbk, jbj, jbe, jbq, .int jbE, jgP, jbi, jcd])), (jiZ, .inr (0, [.ref jlH, .int x8])), (jlH, .inl (cyI, 8, .inl f9)), (jfZ, .inl (cyB, 600, .inl ji4))]) (w1 := (wd00_48 jaW jfZ x2 x10 x13 x5 x11 x12)) (wn := (wd00_43 a0 jaW jaR ja1 jcp jbc jg2 jiZ jbH ja2 jbO jaq jac jbI jbl jbn jba jaa jbA x1 jaW jfZ x2 x10 x13 x5 x11 x12 jaR jcB jcC jbo jbp jbk jbj jbe jbq jbE jgP jbi jcd jiZ jlH x8 jlH cyI f9 jfZ cyB ji4)) hP hD [1] [0, 2, 3, 4, 5] [0, 5, 1, 2, 3, 4] hCc rfl (by decide +kernel) (by decide +kernel) (by decide +kernel) rfl hk1 hFc hP1 hD1
  generalize H1 = H at hP hS ⊢
  refine lv_if_eq (tgt := 46) hx hb (dt_of tkX10_book_k0 15 rfl) (by decide) (fun c15 => ?_) (fun c15 => ?_)
  · have hw := hw.1 c15
    refine lv_aload_n hx hb (dt_of tkX10_book_k35 6 rfl) rfl (lv_at hl 0 rfl) ?_
    refine va_get (D := (dC, dI)) (ci := 10) (v := .ref jg2) (C := RX10) (T := TX10) (N := 19) hx hb hts ui_X10_book_X10 hown hK hP 0 rfl rfl 5 (by decide) (hts _ uw_X10_book_f39) (fun _ h9 => h9) rfl (dt_of tkX10_book_k35 7 rfl) ?_
    refine lv_astore_n (lv' := [(2, .ref jg2), (0, .ref a0), (1, .int p1)]) hx hb (dt_of tkX10_book_k35 8 rfl) rfl hl (by decide) rfl (fun ls hl => ?_)
    refine lv_aload_n hx hb (dt_of tkX10_book_k35 9 rfl) rfl (lv_at hl 1 rfl) ?_
    refine lv_aload_n hx hb (dt_of tkX10_book_k35 10 rfl) rfl (lv_at hl 1 rfl) ?_
    refine va_get (D := (dC, dI)) (ci := 10) (v := .ref jiZ) (C := RX10) (T := TX10) (N := 19) hx hb hts ui_X10_book_X10 hown hK hP 0 rfl rfl 6 (by decide) (hts _ uw_X10_book_f43) (fun _ h9 => h9) rfl (dt_of tkX10_book_k35 11 rfl) ?_
    refine va_put (D := (dC, dI)) (ci := 10) (v := .ref jiZ) (ty := .object "MarchHares$Book") (C := RX10) (T := TX10) (N := 19) hx hb hts ui_X10_book_X10 tyX10 tyX10_ok nmX10 hown hK hP hD hS 0 rfl rfl 5 (by decide) (hts _ uw_X10_book_f39) (fun _ h9 => h9) rfl (by decide +kernel) rfl rfl (Nat.le_of_ble_eq_true rfl) (dt_of tkX10_book_k35 12 rfl) (fun H locs hP hD hS => ?_)
    have hP : va_P (dC, dI) vwCl (wd00_43 a0 jaW jaR ja1 jcp jbc jiZ jiZ jbH ja2 jbO jaq jac jbI jbl jbn jba jaa jbA x1 jaW jfZ x2 x10 x13 x5 x11 x12 jaR jcB jcC jbo jbp jbk jbj jbe jbq jbE jgP jbi jcd jiZ jlH x8 jlH cyI f9 jfZ cyB ji4) H := hP
    have hD : va_D A (wd00_43 a0 jaW jaR ja1 jcp jbc jiZ jiZ jbH ja2 jbO jaq jac jbI jbl jbn jba jaa jbA x1 jaW jfZ x2 x10 x13 x5 x11 x12 jaR jcB jcC jbo jbp jbk jbj jbe jbq jbE jgP jbi jcd jiZ jlH x8 jlH cyI f9 jfZ cyB ji4) := hD
    refine lv_aload_n hx hb (dt_of tkX10_book_k35 13 rfl) rfl (lv_at hl 1 rfl) ?_
    refine lv_aload_n hx hb (dt_of tkX10_book_k35 14 rfl) rfl (lv_at hl 0 rfl) ?_
    refine va_put (D := (dC, dI)) (ci := 10) (v := .ref jg2) (ty := .object "MarchHares$Book") (C := RX10) (T := TX10) (N := 19) hx hb hts ui_X10_book_X10 tyX10 tyX10_ok nmX10 hown hK hP hD hS 0 rfl rfl 6 (by decide) (hts _ uw_X10_book_f43) (fun _ h9 => h9) rfl (by decide +kernel) rfl rfl (Nat.le_of_ble_eq_true rfl) (dt_of tkX10_book_k35 15 rfl) (fun H locs hP hD hS => ?_)
    have hP : va_P (dC, dI) vwCl (wd00_43 a0 jaW jaR ja1 jcp jbc jiZ jg2 jbH ja2 jbO jaq jac jbI jbl jbn jba jaa jbA x1 jaW jfZ x2 x10 x13 x5 x11 x12 jaR jcB jcC jbo jbp jbk jbj jbe jbq jbE jgP jbi jcd jiZ jlH x8 jlH cyI f9 jfZ cyB ji4) H := hP
    have hD : va_D A (wd00_43 a0 jaW jaR ja1 jcp jbc jiZ jg2 jbH ja2 jbO jaq jac jbI jbl jbn jba jaa jbA x1 jaW jfZ x2 x10 x13 x5 x11 x12 jaR jcB jcC jbo jbp jbk jbj jbe jbq jbE jgP jbi jcd jiZ jlH x8 jlH cyI f9 jfZ cyB ji4) := hD
    refine lv_aload_n hx hb (dt_of tkX10_book_k64 0 rfl) rfl (lv_at hl 1 rfl) ?_
    refine va_get (D := (dC, dI)) (ci := 10) (v := .ref jiZ) (C := RX10) (T := TX10) (N := 19) hx hb hts ui_X10_book_X10 hown hK hP 0 rfl rfl 5 (by decide) (hts _ uw_X10_book_f39) (fun _ h9 => h9) rfl (dt_of tkX10_book_k64 1 rfl) ?_
    refine va_get (D := (dC, dI)) (ci := 0) (v := .int x8) (C := RX0) (T := TX0) (N := 2) hx hb hts ui_X10_book_X0 hown hK hP 3 rfl rfl 1 (by decide) (hts _ uw_X10_book_f171) (fun _ h9 => h9) rfl (dt_of tkX10_book_k64 2 rfl) ?_
    exact vx_ret (W.widen (k := 1) (n := 6) (Nat.le_of_ble_eq_true rfl) (Nat.le_of_ble_eq_true rfl) (W.iret (v := x8) hx hb hr (fun t ht hW => ⟨⟨x8, (x1, x2, x10, x13, x5, x11, x12, x8, f9, (.ref jiZ), (.ref jg2)), rfl, hw, by rw [ht]; exact hP, va_K.moved hW.alike hK, hD⟩, hS.F ht⟩) hS.2.2 (dt_of tkX10_book_k64 3 rfl)))
  · have hw := hw.2 c15
    refine lv_aload_n hx hb (dt_of tkX10_book_k35 0 rfl) rfl (lv_at hl 0 rfl) ?_
    refine va_get (D := (dC, dI)) (ci := 10) (v := .ref jaW) (C := RX10) (T := TX10) (N := 19) hx hb hts ui_X10_book_X10 hown hK hP 0 rfl rfl 0 (by decide) (hts _ uw_X10_book_f10) (fun _ h9 => h9) rfl (dt_of tkX10_book_k35 1 rfl) ?_
    refine va_get (D := (dC, dI)) (ci := 8) (v := .int x11) (C := RX8) (T := TX8) (N := 7) hx hb hts ui_X10_book_X8 hown hK hP 1 rfl rfl 5 (by decide) (hts _ uw_X10_book_f120) (fun _ h9 => h9) rfl (dt_of tkX10_book_k35 2 rfl) ?_
    refine lv_bipush (v := 10) hx hb (dt_of tkX10_book_k35 3 rfl) (by decide) ?_
    refine lv_isub hx hb (dt_of tkX10_book_k35 4 rfl) ?_
    exact vx_ret (W.widen (k := 1) (n := 6) (Nat.le_of_ble_eq_true rfl) (Nat.le_of_ble_eq_true rfl) (W.iret (v := (x11 - 10)) hx hb hr (fun t ht hW => ⟨⟨(x11 - 10), (x1, x2, x10, x13, x5, x11, x12, x8, f9, (.ref jg2), (.ref jiZ)), rfl, hw, by rw [ht]; exact hP, va_K.moved hW.alike hK, hD⟩, hS.F ht⟩) hS.2.2 (dt_of tkX10_book_k35 5 rfl)))
theorem uw_L_book_ct13 : (.classLink RL 13 "java/lang/IllegalArgumentException" : Cond) ∈ wsL_book := mbL_book 595 (by decide +kernel)
theorem uw_L_book_cw : (.codeWith yL_book cL_book 4 (some .int) [(0, 9, 12, 13)] : Cond) ∈ wsL_book := mbL_book 2381 (by decide +kernel)
set_option maxHeartbeats 4000000 in
set_option maxRecDepth 100000 in
theorem ck_L_book (l : Launch) (dC : Nat → ClassId) (dI : Nat → Nat → Nat) (cyB cyI cyJ cyP : ClassId) (a0 a2 jaW jaR jiZ jlH jfZ jg2 sz : Nat) (ja1 jcp jbc jbH ja2 jbO jaq jac jbI jbl jbn jba jaa jbA jcB jcC jbo jbp jbk jbj jbe jbq jgP jbi jcd : Value) (n2 : Nat) (jbE : Int32) (ji4 : Nat → Int32) (jbz jk4 jlW jll jj0 jlm jjE jnH : Int32) (jnI : Nat → Int32) (f2 : Nat → Int64) (p1 : Int32) {Q : Int32 → Int32 → Int32 → Int32 → Int32 → Int32 → Int32 → Int32 → Int32 → (Nat → Int32) → Value → Value → (Nat → Int64) → Prop} (hw : wq_L_book jg2 jiZ n2 jbE ji4 jbz jk4 jlW jll jj0 jlm jjE jnH jnI (.ref jg2) (.ref jiZ) f2 p1 Q) : Met l yL_book wsL_book ({ frames := 10, cells := 1, slots := 6, locals := 208 }) (va_Pc [.ref a0, .int p1, .ref a2] (cPx l (dC, dI) (kT cyB cyI cyJ cyP) (wd00_49 a0 jaW jaR ja1 jcp jbc jg2 jiZ jbH ja2 jbO jaq jac jbI jbl jbn jba jaa jbA jbz jaW jfZ jk4 jlW jll jj0 jlm jjE jaR jcB jcC jbo jbp jbk jbj jbe jbq jbE jgP jbi jcd jiZ jlH jnH jlH cyI jnI jfZ cyB ji4 a2 cyJ n2 f2) sz)) (va_Qi (fun (r : Int32) (u : Int32 × Int32 × Int32 × Int32 × Int32 × Int32 × Int32 × Int32 × (Nat → Int32) × Value × Value × (Nat → Int64)) => Q r u.1 u.2.1 u.2.2.1 u.2.2.2.1 u.2.2.2.2.1 u.2.2.2.2.2.1 u.2.2.2.2.2.2.1 u.2.2.2.2.2.2.2.1 u.2.2.2.2.2.2.2.2.1 u.2.2.2.2.2.2.2.2.2.1 u.2.2.2.2.2.2.2.2.2.2.1 u.2.2.2.2.2.2.2.2.2.2.2) (cB (dC, dI) (kT cyB cyI cyJ cyP) (va_A (wd00_49 a0 jaW jaR ja1 jcp jbc jg2 jiZ jbH ja2 jbO jaq jac jbI jbl jbn jba jaa jbA jbz jaW jfZ jk4 jlW jll jj0 jlm jjE jaR jcB jcC jbo jbp jbk jbj jbe jbq jbE jgP jbi jcd jiZ jlH jnH jlH cyI jnI jfZ cyB ji4 a2 cyJ n2 f2) sz) (fun u : Int32 × Int32 × Int32 × Int32 × Int32 × Int32 × Int32 × Int32 × (Nat → Int32) × Value × Value × (Nat → Int64) => ((wd00_50 a0 jaW jaR ja1 jcp jbc u.2.2.2.2.2.2.2.2.2.1 u.2.2.2.2.2.2.2.2.2.2.1 jbH ja2 jbO jaq jac jbI jbl jbn jba jaa jbA u.1 jaW jfZ u.2.1 u.2.2.1 u.2.2.2.1 u.2.2.2.2.1 u.2.2.2.2.2.1 u.2.2.2.2.2.2.1 jaR jcB jcC jbo jbp jbk jbj jbe jbq jbE jgP jbi jcd jiZ jlH u.2.2.2.2.2.2.2.1 jlH cyI u.2.2.2.2.2.2.2.2.1 jfZ cyB ji4 a2 cyJ n2 u.2.2.2.2.2.2.2.2.2.2.2) : va_W))) (va_A (wd00_49 a0 jaW jaR ja1 jcp jbc jg2 jiZ jbH ja2 jbO jaq jac jbI jbl jbn jba jaa jbA jbz jaW jfZ jk4 jlW jll jj0 jlm jjE jaR jcB jcC jbo jbp jbk jbj jbe jbq jbE jgP jbi jcd jiZ jlH jnH jlH cyI jnI jfZ cyB ji4 a2 cyJ n2 f2) sz)) 1 6 (va_A (wd00_49 a0 jaW jaR ja1 jcp jbc jg2 jiZ jbH ja2 jbO jaq jac jbI jbl jbn jba jaa jbA jbz jaW jfZ jk4 jlW jll jj0 jlm jjE jaR jcB jcC jbo jbp jbk jbj jbe jbq jbE jgP jbi jcd jiZ jlH jnH jlH cyI jnI jfZ cyB ji4 a2 cyJ n2 f2) sz) := by
  refine va_MetW (cc := cL_book) (maxL := 4) (ret := (some .int)) (by decide) rfl ?_
  intro p e s m args below meth c s₁ B hml hv
  obtain ⟨rfl, hsz, hP, hK, hD0, hNw, hXl, hXu, hXn, hXt⟩ := hv
  have hx := B.exec
  have hb := B.bytes
  have hr := B.returns
  have hts := atoms_spec (ws := wsL_book) B.pre
  have hown : s.vm.findClass RL = some m.cls := findClass_of_methodNamed B.named
  have hlocks := B.notSynchronized
  subst hsz
  have hD := hD0.self (sz := s.heap.size)
  generalize hAe : va_A (wd00_49 a0 jaW jaR ja1 jcp jbc jg2 jiZ jbH ja2 jbO jaq jac jbI jbl jbn jba jaa jbA jbz jaW jfZ jk4 jlW jll jj0 jlm jjE jaR jcB jcC jbo jbp jbk jbj jbe jbq jbE jgP jbi jcd jiZ jlH jnH jlH cyI jnI jfZ cyB ji4 a2 cyJ n2 f2) s.heap.size = A at hD hXu hXn ⊢
  have hA : ∀ q : Nat, s.heap.size ≤ q → A q := fun q h => by rw [← hAe]; exact Or.inr h
  have hS : va_S A s.heap s.heap [] := va_S.rf
  have hP : va_P (dC, dI) vwCl (wd00_49 a0 jaW jaR ja1 jcp jbc jg2 jiZ jbH ja2 jbO jaq jac jbI jbl jbn jba jaa jbA jbz jaW jfZ jk4 jlW jll jj0 jlm jjE jaR jcB jcC jbo jbp jbk jbj jbe jbq jbE jgP jbi jcd jiZ jlH jnH jlH cyI jnI jfZ cyB ji4 a2 cyJ n2 f2) s.heap := hP
  have hl := lv_entry ([.ref a0, .int p1, .ref a2]) (n := 4) (Nat.le_of_ble_eq_true rfl)
  rw [lg_entry_eq]
  generalize (lg_sl ([.ref a0, .int p1, .ref a2]) ++ List.replicate (4 - (lg_sl ([.ref a0, .int p1, .ref a2])).length) Slot.unset).toArray = ls at hl ⊢
  have hl : lv_has ls 4 [(0, .ref a0), (1, .int p1), (2, .ref a2)] := hl
  have hY : cfY l s A := ⟨hXl, hXu, hXn, hXt⟩
  have hTb := vx_table (x := yL_book) B (hts _ uw_L_book_cw)
  clear hAe
  obtain ⟨H, hH⟩ : ∃ H, H = s.heap := ⟨_, rfl⟩
  rw [← hH] at hP ⊢
  have hS : va_S A s.heap H [] := by rw [hH]; exact va_S.rf
  have hS := hS
  refine lv_aload_n hx hb (dt_of tkL_book_k0 0 rfl) rfl (lv_at hl 2 rfl) ?_
  refine lv_iconst (v := 0) hx hb (dt_of tkL_book_k0 1 rfl) (by decide) ?_
  refine lv_aload_n hx hb (dt_of tkL_book_k0 2 rfl) rfl (lv_at hl 0 rfl) ?_
  refine lv_iload_n hx hb (dt_of tkL_book_k0 3 rfl) rfl (lv_at hl 1 rfl) ?_
  obtain ⟨hCc, hPc, hDc, hFc⟩ := va_pick (ws' := (wd00_43 a0 jaW jaR ja1 jcp jbc jg2 jiZ jbH ja2 jbO jaq jac jbI jbl jbn jba jaa jbA jbz jaW jfZ jk4 jlW jll jj0 jlm jjE jaR jcB jcC jbo jbp jbk jbj jbe jbq jbE jgP jbi jcd jiZ jlH jnH jlH cyI jnI jfZ cyB ji4)) hP hD hS hA [0, 1, 2, 3, 4, 5] (by decide +kernel) rfl
  refine vx_calli (vx_runV (As := [.int p1]) (rest := [.int 0, .ref a2]) ⟨hx, hb, hml, hown, hts⟩ (ck_X10_book l dC dI cyB cyI cyJ cyP a0 jaW jiZ jaR jlH jfZ jg2 H.size (ja1) (jcp) (jbc) (jbH) (ja2) (jbO) (jaq) (jac) (jbI) (jbl) (jbn) (jba) (jaa) (jbA) (jcB) (jcC) (jbo) (jbp) (jbk) (jbj) (jbe) (jbq) (jgP) (jbi) (jcd) jbE ji4 jbz jk4 jlW jll jj0 jlm jjE jnH jnI p1 hw) (cwV 1 hts gL_book_X10_book rfl rfl rfl (by decide +kernel) ⟨Nat.le_of_ble_eq_true rfl, Nat.le_of_ble_eq_true rfl⟩) ⟨cPx_blind, va_recv (q := (RX10, TX10, 19)) hK hPc (ci := 10) (q0 := 0) rfl rfl, cPx_pre hPc hK hDc hNw hY hS hFc⟩ rfl rfl hl.1 rfl (lv_room (Nat.le_of_ble_eq_true rfl)) (dt_of tkL_book_k0 4 rfl) ⟨Nat.le_of_ble_eq_true rfl, Nat.le_of_ble_eq_true rfl⟩) hS (fun q _ h => hFc q h) hFc (fun q _ h => hFc q h) (fun en ce qx9 u t H1 locs ht hvm hpx hB hz1 hk1 hS hc9 hv9 hcl9 => ?_) (fun r12 u t H1 locs ht hvm hw hB hz1 hk1 hS => ?_)
  · obtain ⟨x1, x2, x3, x4, x5, x6, x7, x8, f9, q10, q11⟩ := u
    obtain ⟨hw, hP1, hK1, hD1⟩ := hB
    rw [ht] at hP1
    obtain ⟨hP, hD⟩ := va_joinN (wr := [(a2, .inl (cyJ, n2, .inr (.inl f2)))]) (w1 := (wd00_44 a0 jaW jaR ja1 jcp jbc q10 q11 jbH ja2 jbO jaq jac jbI jbl jbn jba jaa jbA x1 jaW jfZ x2 x3 x4 x5 x6 x7 jaR jcB jcC jbo jbp jbk jbj jbe jbq jbE jgP jbi jcd jiZ jlH x8 jlH cyI f9 jfZ cyB ji4)) (wn := (wd00_50 a0 jaW jaR ja1 jcp jbc q10 q11 jbH ja2 jbO jaq jac jbI jbl jbn jba jaa jbA x1 jaW jfZ x2 x3 x4 x5 x6 x7 jaR jcB jcC jbo jbp jbk jbj jbe jbq jbE jgP jbi jcd jiZ jlH x8 jlH cyI f9 jfZ cyB ji4 a2 cyJ n2 f2)) hP hD [0, 1, 2, 3, 4, 5] [6] [1, 2, 3, 4, 5, 6, 0] hCc rfl (by decide +kernel) (by decide +kernel) (by decide +kernel) rfl hk1 hFc hP1 hD1
    generalize H1 = H at hP hS hc9 ⊢
    obtain ⟨rfl, hw⟩ := hw
    refine vx_catch (own := RL) (name := "java/lang/IllegalArgumentException") hown [] ⟨0, 9, 12, 13⟩ [] (hTb.trans rfl) (fun z hz => nomatch hz) (by decide) (by decide) (hts _ uw_L_book_ct13) (va_Nw.use rfl (hY.2.2.2.1.2 _ (List.mem_of_getElem? (i := 0) rfl))) hc9 hv9 hcl9 ?_
    refine lv_astore_n (lv' := [(3, .ref qx9), (0, .ref a0), (1, .int p1), (2, .ref a2)]) hx hb (dt_of tkL_book_k0 8 rfl) rfl hl (by decide) rfl (fun ls hl => ?_)
    refine lv_iconst (v := 1) hx hb (dt_of tkL_book_k0 9 rfl) (by decide) ?_
    exact (W.widen (k := 1) (n := 6) (Nat.le_of_ble_eq_true rfl) (Nat.le_of_ble_eq_true rfl) (W.iret (v := 1) hx hb hr (fun t ht hW => ⟨⟨1, (x1, x2, x3, x4, x5, x6, x7, x8, f9, q10, q11, f2), rfl, hw, by rw [ht]; exact hP, va_K.moved hW.alike hK, hD⟩, hS.F ht⟩) hS.2.2 (dt_of tkL_book_k0 10 rfl)))
  obtain ⟨x1, x2, x3, x4, x5, x6, x7, x8, f9, q10, q11⟩ := u
  obtain ⟨hP1, hK1, hD1⟩ := hB
  rw [ht] at hP1
  obtain ⟨hP, hD⟩ := va_join (wr := [(a2, .inl (cyJ, n2, .inr (.inl f2)))]) (w1 := (wd00_44 a0 jaW jaR ja1 jcp jbc q10 q11 jbH ja2 jbO jaq jac jbI jbl jbn jba jaa jbA x1 jaW jfZ x2 x3 x4 x5 x6 x7 jaR jcB jcC jbo jbp jbk jbj jbe jbq jbE jgP jbi jcd jiZ jlH x8 jlH cyI f9 jfZ cyB ji4)) hP hD [0, 1, 2, 3, 4, 5] [6] rfl rfl (by decide) (by decide) hk1 hFc hP1 hD1
  have hP : va_P (dC, dI) vwCl (wd00_50 a0 jaW jaR ja1 jcp jbc q10 q11 jbH ja2 jbO jaq jac jbI jbl jbn jba jaa jbA x1 jaW jfZ x2 x3 x4 x5 x6 x7 jaR jcB jcC jbo jbp jbk jbj jbe jbq jbE jgP jbi jcd jiZ jlH x8 jlH cyI f9 jfZ cyB ji4 a2 cyJ n2 f2) H1 := hP.sub [1, 2, 3, 4, 5, 6, 0] rfl
  have hD : va_D A (wd00_50 a0 jaW jaR ja1 jcp jbc q10 q11 jbH ja2 jbO jaq jac jbI jbl jbn jba jaa jbA x1 jaW jfZ x2 x3 x4 x5 x6 x7 jaR jcB jcC jbo jbp jbk jbj jbe jbq jbE jgP jbi jcd jiZ jlH x8 jlH cyI f9 jfZ cyB ji4 a2 cyJ n2 f2) := hD.sub [1, 2, 3, 4, 5, 6, 0] (by decide) rfl
  generalize H1 = H at hP hS ⊢
  refine lv_i2l (v := r12.toInt64) hx hb (dt_of tkL_book_k0 5 rfl) rfl ?_
  refine lv_topl (fun x13 ex13 => ?_)
  have hw := hw x13 ex13
  obtain ⟨hi9, hw⟩ := hw
  refine va_last hx hb hK hP hD hS 6 2 rfl rfl hi9 (dt_of tkL_book_k0 6 rfl) (fun H locs hP hD hS => ?_)
  obtain ⟨f14, ef14⟩ : ∃ y : Nat → Int64, y = vp_updL f2 (0 : Int32).toNatClampNeg x13 := ⟨_, rfl⟩
  have hw := hw f14 ef14
  have hP : va_P (dC, dI) vwCl (wd00_50 a0 jaW jaR ja1 jcp jbc q10 q11 jbH ja2 jbO jaq jac jbI jbl jbn jba jaa jbA x1 jaW jfZ x2 x3 x4 x5 x6 x7 jaR jcB jcC jbo jbp jbk jbj jbe jbq jbE jgP jbi jcd jiZ jlH x8 jlH cyI f9 jfZ cyB ji4 a2 cyJ n2 f14) H := by rw [ef14]; exact hP
  have hD : va_D A (wd00_50 a0 jaW jaR ja1 jcp jbc q10 q11 jbH ja2 jbO jaq jac jbI jbl jbn jba jaa jbA x1 jaW jfZ x2 x3 x4 x5 x6 x7 jaR jcB jcC jbo jbp jbk jbj jbe jbq jbE jgP jbi jcd jiZ jlH x8 jlH cyI f9 jfZ cyB ji4 a2 cyJ n2 f14) := by rw [ef14]; exact hD
  refine lv_goto (tgt := 15) hx hb (dt_of tkL_book_k0 7 rfl) (by decide) ?_
  refine lv_iconst (v := 0) hx hb (dt_of tkL_book_k0 11 rfl) (by decide) ?_
  exact (W.widen (k := 1) (n := 6) (Nat.le_of_ble_eq_true rfl) (Nat.le_of_ble_eq_true rfl) (W.iret (v := 0) hx hb hr (fun t ht hW => ⟨⟨0, (x1, x2, x3, x4, x5, x6, x7, x8, f9, q10, q11, f14), rfl, hw, by rw [ht]; exact hP, va_K.moved hW.alike hK, hD⟩, hS.F ht⟩) hS.2.2 (dt_of tkL_book_k0 12 rfl)))
theorem ub_X10_needHare_268 : ∀ w ∈ (ux_atS RX10 268 "java/util/NoSuchElementException" 13 ux_rx ["java/lang/RuntimeException", "java/lang/Exception"]).filter (fun w => !goodWord w), w ∈ xB := by decide +kernel
theorem ug_X10_needHare_268 : ∀ w ∈ Cond.classLink RX10 264 "java/util/NoSuchElementException" :: Cond.initialized "java/util/NoSuchElementException" :: ux_atS RX10 268 "java/util/NoSuchElementException" 13 ux_rx ["java/lang/RuntimeException", "java/lang/Exception"], vx_ot w = true := by decide +kernel
theorem uh_X10_needHare_268 : ∀ w ∈ (ux_atS RX10 268 "java/util/NoSuchElementException" 13 ux_rx ["java/lang/RuntimeException", "java/lang/Exception"]).filter goodWord, w ∈ wsX10_needHare := by decide +kernel
theorem ui_X10_needHare_X10 : ∀ w ∈ u_ws RX10 TX10 19, w ∈ wsX10_needHare := uiM mbX10_needHare euX10 (by decide +kernel)
theorem ui_X10_needHare_X2 : ∀ w ∈ u_ws RX2 TX2 12, w ∈ wsX10_needHare := uiM mbX10_needHare euX2 (by decide +kernel)
theorem uw_X10_needHare_cl264 : (.classLink RX10 264 "java/util/NoSuchElementException" : Cond) ∈ wsX10_needHare := mbX10_needHare 2690 (by decide +kernel)
theorem uw_X10_needHare_f141 : (.fieldLink RX10 141 "MarchHares$Down" "hares" "I" : Cond) ∈ wsX10_needHare := mbX10_needHare 644 (by decide +kernel)
theorem uw_X10_needHare_f19 : (.fieldLink RX10 19 "MarchHares" "ground" "LMarchHares$Down;" : Cond) ∈ wsX10_needHare := mbX10_needHare 20 (by decide +kernel)
theorem uw_X10_needHare_f261 : (.fieldLink RX10 261 "MarchHares" "callsNoSuch" "I" : Cond) ∈ wsX10_needHare := mbX10_needHare 2692 (by decide +kernel)
theorem uw_X10_needHare_ini264 : (.initialized "java/util/NoSuchElementException" : Cond) ∈ wsX10_needHare := mbX10_needHare 2691 (by decide +kernel)
set_option maxHeartbeats 4000000 in
set_option maxRecDepth 100000 in
theorem ck_X10_needHare (l : Launch) (dC : Nat → ClassId) (dI : Nat → Nat → Nat) (cyB cyI cyJ cyP : ClassId) (a0 jaR sz : Nat) (jaK ja1 jcp jbc jbV ja3 jbH ja2 jbO jaq jac jbI jbl jbn jba jaa jdD jcB jcC jbo jbp jbk jbj jbe jbq jef jbi jcd : Value) (jbm jdu p1 : Int32) {E : String → Int32 → Prop} {Q : Int32 → Prop} (hw : wq_X10_needHare jbm jdu p1 E Q) : vx_Met l yX10_needHare wsX10_needHare ({ frames := 6, cells := 1, slots := 6, locals := 120 }) (va_Pc [.ref a0, .int p1] (cPx l (dC, dI) (kT cyB cyI cyJ cyP) (wd00_51 a0 jaK jaR ja1 jcp jbc jbV ja3 jbH ja2 jbO jaq jac jbI jbl jbn jba jaa jdu jdD jaR jcB jcC jbo jbp jbk jbj jbe jbq jef jbm jbi jcd) sz)) (va_Qv (fun (u : Int32) => Q u) (cB (dC, dI) (kT cyB cyI cyJ cyP) (va_A (wd00_51 a0 jaK jaR ja1 jcp jbc jbV ja3 jbH ja2 jbO jaq jac jbI jbl jbn jba jaa jdu jdD jaR jcB jcC jbo jbp jbk jbj jbe jbq jef jbm jbi jcd) sz) (fun u : Int32 => ((wd00_51 a0 jaK jaR ja1 jcp jbc jbV ja3 jbH ja2 jbO jaq jac jbI jbl jbn jba jaa u jdD jaR jcB jcC jbo jbp jbk jbj jbe jbq jef jbm jbi jcd) : va_W))) (va_A (wd00_51 a0 jaK jaR ja1 jcp jbc jbV ja3 jbH ja2 jbO jaq jac jbI jbl jbn jba jaa jdu jdD jaR jcB jcC jbo jbp jbk jbj jbe jbq jef jbm jbi jcd) sz)) (vx_X (fun _ => True) (fun (en : String) (u : Int32) (t : State) => E en u ∧ cB (dC, dI) (kT cyB cyI cyJ cyP) (va_A (wd00_51 a0 jaK jaR ja1 jcp jbc jbV ja3 jbH ja2 jbO jaq jac jbI jbl jbn jba jaa jdu jdD jaR jcB jcC jbo jbp jbk jbj jbe jbq jef jbm jbi jcd) sz) (fun u : Int32 => ((wd00_51 a0 jaK jaR ja1 jcp jbc jbV ja3 jbH ja2 jbO jaq jac jbI jbl jbn jba jaa u jdD jaR jcB jcC jbo jbp jbk jbj jbe jbq jef jbm jbi jcd) : va_W)) u t) (va_A (wd00_51 a0 jaK jaR ja1 jcp jbc jbV ja3 jbH ja2 jbO jaq jac jbI jbl jbn jba jaa jdu jdD jaR jcB jcC jbo jbp jbk jbj jbe jbq jef jbm jbi jcd) sz)) 1 6 (va_A (wd00_51 a0 jaK jaR ja1 jcp jbc jbV ja3 jbH ja2 jbO jaq jac jbI jbl jbn jba jaa jdu jdD jaR jcB jcC jbo jbp jbk jbj jbe jbq jef jbm jbi jcd) sz) := by
  refine vx_ofW (cc := cX10_needHare) (maxL := 2) (ret := none) (by decide) rfl ?_
  intro p e s m args below meth c s₁ B hml hnt hv
  obtain ⟨rfl, hsz, hP, hK, hD0, hNw, hXl, hXu, hXn, hXt⟩ := hv
  have hx := B.exec
  have hb := B.bytes
  have hr := B.returns
  have hts := atoms_spec (ws := wsX10_needHare) B.pre
  have hown : s.vm.findClass RX10 = some m.cls := findClass_of_methodNamed B.named
  have hlocks := B.notSynchronized
  subst hsz
  have hD := hD0.self (sz := s.heap.size)
  generalize hAe : va_A (wd00_51 a0 jaK jaR ja1 jcp jbc jbV ja3 jbH ja2 jbO jaq jac jbI jbl jbn jba jaa jdu jdD jaR jcB jcC jbo jbp jbk jbj jbe jbq jef jbm jbi jcd) s.heap.size = A at hD hXu hXn ⊢
  have hA : ∀ q : Nat, s.heap.size ≤ q → A q := fun q h => by rw [← hAe]; exact Or.inr h
  have hS : va_S A s.heap s.heap [] := va_S.rf
  have hP : va_P (dC, dI) vwCl (wd00_51 a0 jaK jaR ja1 jcp jbc jbV ja3 jbH ja2 jbO jaq jac jbI jbl jbn jba jaa jdu jdD jaR jcB jcC jbo jbp jbk jbj jbe jbq jef jbm jbi jcd) s.heap := hP
  have hl := lv_entry ([.ref a0, .int p1]) (n := 2) (Nat.le_of_ble_eq_true rfl)
  rw [lg_entry_eq]
  generalize (lg_sl ([.ref a0, .int p1]) ++ List.replicate (2 - (lg_sl ([.ref a0, .int p1])).length) Slot.unset).toArray = ls at hl ⊢
  have hl : lv_has ls 2 [(0, .ref a0), (1, .int p1)] := hl
  have hY : cfY l s A := ⟨hXl, hXu, hXn, hXt⟩
  have hXs : cfX l s c A := ⟨hnt, hY⟩
  have C0 : cfx p s m _ meth c cX10_needHare none wsX10_needHare RX10 2 A (dC, dI) (kT cyB cyI cyJ cyP) ∧ cfX l s c A := ⟨⟨hx, hb, hr, hts, hown, hlocks, hml, hA, hK, hNw⟩, hXs⟩
  clear hAe
  obtain ⟨H, hH⟩ : ∃ H, H = s.heap := ⟨_, rfl⟩
  rw [← hH] at hP ⊢
  have hS : va_S A s.heap H [] := by rw [hH]; exact va_S.rf
  have hS := hS
  refine lv_iload_n hx hb (dt_of tkX10_needHare_k0 0 rfl) rfl (lv_at hl 1 rfl) ?_
  refine lv_iconst (v := 0) hx hb (dt_of tkX10_needHare_k0 1 rfl) (by decide) ?_
  refine lv_aload_n hx hb (dt_of tkX10_needHare_k0 2 rfl) rfl (lv_at hl 0 rfl) ?_
  refine va_get (D := (dC, dI)) (ci := 10) (v := .ref jaR) (C := RX10) (T := TX10) (N := 19) hx hb hts ui_X10_needHare_X10 hown hK hP 0 rfl rfl 1 (by decide) (hts _ uw_X10_needHare_f19) (fun _ h9 => h9) rfl (dt_of tkX10_needHare_k0 3 rfl) ?_
  refine va_get (D := (dC, dI)) (ci := 2) (v := .int jbm) (C := RX2) (T := TX2) (N := 12) hx hb hts ui_X10_needHare_X2 hown hK hP 1 rfl rfl 9 (by decide) (hts _ uw_X10_needHare_f141) (fun _ h9 => h9) rfl (dt_of tkX10_needHare_k0 4 rfl) ?_
  refine lv_iconst (v := 1) hx hb (dt_of tkX10_needHare_k0 5 rfl) (by decide) ?_
  refine lv_isub hx hb (dt_of tkX10_needHare_k0 6 rfl) ?_
  obtain ⟨hCc, hPc, hDc, hFc⟩ := va_pick (ws' := []) hP hD hS hA [] (by decide +kernel) rfl
  refine va_calli (va_runS (As := [.int p1, .int 0, .int (jbm - 1)]) (rest := []) ⟨hx, hb, hml, hown, hts⟩ (ck_X10_within l dC dI cyB cyI cyJ cyP  H.size    p1 0 (jbm - 1) hw) (va_cwS 3 hts gX10_needHare_X10_within rfl rfl rfl (by decide +kernel) ⟨Nat.le_of_ble_eq_true rfl, Nat.le_of_ble_eq_true rfl⟩) ⟨cPc_blind, cPc_pre hPc hK hDc hNw⟩ rfl rfl hl.1 rfl (lv_room (Nat.le_of_ble_eq_true rfl)) (dt_of tkX10_needHare_k0 7 rfl) ⟨Nat.le_of_ble_eq_true rfl, Nat.le_of_ble_eq_true rfl⟩) hS (fun q _ h => hFc q h) hFc (fun r1 u t H1 locs ht hvm hw hB hz1 hk1 hS => ?_)
  obtain ⟨hP1, hK1, hD1⟩ := hB
  rw [ht] at hP1
  obtain ⟨hP, hD⟩ := va_joinI (wr := (wd00_51 a0 jaK jaR ja1 jcp jbc jbV ja3 jbH ja2 jbO jaq jac jbI jbl jbn jba jaa jdu jdD jaR jcB jcC jbo jbp jbk jbj jbe jbq jef jbm jbi jcd)) (w1 := []) (wn := (wd00_51 a0 jaK jaR ja1 jcp jbc jbV ja3 jbH ja2 jbO jaq jac jbI jbl jbn jba jaa jdu jdD jaR jcB jcC jbo jbp jbk jbj jbe jbq jef jbm jbi jcd)) hP hD [] [0, 1] hCc rfl (by decide +kernel) (by decide +kernel) rfl hk1 hFc hP1 hD1
  generalize H1 = H at hP hS ⊢
  refine lv_if_ne (tgt := 38) hx hb (dt_of tkX10_needHare_k0 8 rfl) (by decide) (fun c2 => ?_) (fun c2 => ?_)
  · have hw := hw.1 c2
    exact vx_ret (W.widen (k := 1) (n := 6) (Nat.le_of_ble_eq_true rfl) (Nat.le_of_ble_eq_true rfl) (W.vret hx hb hr (fun t ht hW => ⟨⟨(jdu), rfl, hw, by rw [ht]; exact hP, va_K.moved hW.alike hK, hD⟩, hS.F ht⟩) hS.2.2 (dt_of tkX10_needHare_k30 4 rfl)))
  · have hw := hw.2 c2
    refine lv_aload_n hx hb (dt_of tkX10_needHare_k0 9 rfl) rfl (lv_at hl 0 rfl) ?_
    refine lv_dup hx hb (dt_of tkX10_needHare_k0 10 rfl) rfl ?_
    refine va_get (D := (dC, dI)) (ci := 10) (v := .int jdu) (C := RX10) (T := TX10) (N := 19) hx hb hts ui_X10_needHare_X10 hown hK hP 0 rfl rfl 17 (by decide) (hts _ uw_X10_needHare_f261) (fun _ h9 => h9) rfl (dt_of tkX10_needHare_k0 11 rfl) ?_
    refine lv_iconst (v := 1) hx hb (dt_of tkX10_needHare_k0 12 rfl) (by decide) ?_
    refine lv_iadd hx hb (dt_of tkX10_needHare_k0 13 rfl) ?_
    refine lv_topi (fun x3 ex3 => ?_)
    have hw := hw x3 ex3
    refine va_put (D := (dC, dI)) (ci := 10) (v := .int x3) (ty := .int) (C := RX10) (T := TX10) (N := 19) hx hb hts ui_X10_needHare_X10 tyX10 tyX10_ok nmX10 hown hK hP hD hS 0 rfl rfl 17 (by decide) (hts _ uw_X10_needHare_f261) (fun _ h9 => h9) rfl (by decide +kernel) rfl rfl (Nat.le_of_ble_eq_true rfl) (dt_of tkX10_needHare_k0 14 rfl) (fun H locs hP hD hS => ?_)
    have hP : va_P (dC, dI) vwCl (wd00_51 a0 jaK jaR ja1 jcp jbc jbV ja3 jbH ja2 jbO jaq jac jbI jbl jbn jba jaa x3 jdD jaR jcB jcC jbo jbp jbk jbj jbe jbq jef jbm jbi jcd) H := hP
    have hD : va_D A (wd00_51 a0 jaK jaR ja1 jcp jbc jbV ja3 jbH ja2 jbO jaq jac jbI jbl jbn jba jaa x3 jdD jaR jcB jcC jbo jbp jbk jbj jbe jbq jef jbm jbi jcd) := hD
    obtain ⟨sa9, hsa9⟩ := hY.2.2.2.2.1 _ (List.mem_of_getElem? (i := 1) rfl)
    exact ux_throwSW hx hb hY.1 (own := RX10) (cls := "java/util/NoSuchElementException") (names := ["java/lang/RuntimeException", "java/lang/Exception"]) (ik := 264) (is := 403) (ic := 268) (rx := ux_rx) (by decide +kernel) (by decide +kernel) (by decide +kernel) (by decide +kernel) hown (by decide +kernel) (by decide +kernel) (hts _ uw_X10_needHare_cl264) (hts _ uw_X10_needHare_ini264) hsa9 (vx_hat (fun w hw9 => hts w (uh_X10_needHare_268 w hw9)) ub_X10_needHare_268 (xB_use hY.2.2.2.1)) ug_X10_needHare_268 hY.2.1 hY.2.2.1 hS (by rw [hml]; exact hl.1) (dt_of tkX10_needHare_k0 15 rfl) (dt_of tkX10_needHare_k30 0 rfl) (dt_of tkX10_needHare_k30 1 rfl) (dt_of tkX10_needHare_k30 2 rfl) (dt_of tkX10_needHare_k30 3 rfl) (fun x hx9 => (hXs.1 x hx9).elim) (Nat.le_of_ble_eq_true rfl) (Nat.le_of_ble_eq_true rfl) (Nat.le_of_ble_eq_true rfl) (Nat.le_of_ble_eq_true rfl) hlocks (fun t hal hsz9 hq9 => ⟨(x3), trivial, ⟨hw, hP.kept (fun k q hk9 => hq9 _ ((hP k q hk9).lt)), va_K.moved hal hK, hD⟩, xt_frame hS hsz9 hq9⟩) hS.2.2 (Nat.le_of_ble_eq_true rfl) (Nat.le_of_ble_eq_true rfl)
theorem ui_X1_freeOnes_X1 : ∀ w ∈ u_ws RX1 TX1 4, w ∈ wsX1_freeOnes := uiM mbX1_freeOnes euX1 (by decide +kernel)
theorem ui_X1_freeOnes_X2 : ∀ w ∈ u_ws RX2 TX2 12, w ∈ wsX1_freeOnes := uiM mbX1_freeOnes euX2 (by decide +kernel)
theorem uw_X1_freeOnes_f13 : (.fieldLink RX1 13 "MarchHares$Days" "row" "[I" : Cond) ∈ wsX1_freeOnes := mbX1_freeOnes 276 (by decide +kernel)
theorem uw_X1_freeOnes_f24 : (.fieldLink RX1 24 "MarchHares$Days" "down" "LMarchHares$Down;" : Cond) ∈ wsX1_freeOnes := mbX1_freeOnes 322 (by decide +kernel)
theorem uw_X1_freeOnes_f32 : (.fieldLink RX1 32 "MarchHares$Down" "hares" "I" : Cond) ∈ wsX1_freeOnes := mbX1_freeOnes 324 (by decide +kernel)
set_option maxHeartbeats 4000000 in
set_option maxRecDepth 100000 in
theorem ck_X1_freeOnes (l : Launch) (dC : Nat → ClassId) (dI : Nat → Nat → Nat) (cyB cyI cyJ cyP : ClassId) (a0 jfB jch sz : Nat) (jcD jhx jhp jhq jgi jgj jgk jgz jfR jgl jgO jfS jiB : Value) (jc5 : Int32) (jdE : Nat → Int32)   {Q : Int32 → Prop} (hw : wq_X1_freeOnes jc5 jdE   Q) : Met l yX1_freeOnes wsX1_freeOnes ({ frames := 0, cells := 0, slots := 0, locals := 0 }) (va_Pc [.ref a0] (cPc (dC, dI) (kT cyB cyI cyJ cyP) (wd00_9 a0 jch jcD jfB jhx jfB jhp jhq jgi jgj jgk jgz jfR jgl jgO jc5 jfS jiB jch cyI jdE) sz)) (va_Qi (fun (r : Int32) (_ : Unit) => Q r ) (cB (dC, dI) (kT cyB cyI cyJ cyP) (va_A (wd00_9 a0 jch jcD jfB jhx jfB jhp jhq jgi jgj jgk jgz jfR jgl jgO jc5 jfS jiB jch cyI jdE) sz) (fun u : Unit => ((wd00_9 a0 jch jcD jfB jhx jfB jhp jhq jgi jgj jgk jgz jfR jgl jgO jc5 jfS jiB jch cyI jdE) : va_W))) (va_A (wd00_9 a0 jch jcD jfB jhx jfB jhp jhq jgi jgj jgk jgz jfR jgl jgO jc5 jfS jiB jch cyI jdE) sz)) 0 0 (va_A (wd00_9 a0 jch jcD jfB jhx jfB jhp jhq jgi jgj jgk jgz jfR jgl jgO jc5 jfS jiB jch cyI jdE) sz) := by
  refine Met.ofW (cc := cX1_freeOnes) (maxL := 1) (ret := (some .int)) (by decide) rfl ?_
  intro p e s m args below meth c s₁ B hml hv
  obtain ⟨rfl, hsz, hP, hK, hD0, hNw⟩ := hv
  have hx := B.exec
  have hb := B.bytes
  have hr := B.returns
  have hts := atoms_spec (ws := wsX1_freeOnes) B.pre
  have hown : s.vm.findClass RX1 = some m.cls := findClass_of_methodNamed B.named
  have hlocks := B.notSynchronized
  subst hsz
  have hD := hD0.self (sz := s.heap.size)
  generalize hAe : va_A (wd00_9 a0 jch jcD jfB jhx jfB jhp jhq jgi jgj jgk jgz jfR jgl jgO jc5 jfS jiB jch cyI jdE) s.heap.size = A at hD ⊢
  have hA : ∀ q : Nat, s.heap.size ≤ q → A q := fun q h => by rw [← hAe]; exact Or.inr h
  have hS : va_S A s.heap s.heap [] := va_S.rf
  have hP : va_P (dC, dI) vwCl (wd00_9 a0 jch jcD jfB jhx jfB jhp jhq jgi jgj jgk jgz jfR jgl jgO jc5 jfS jiB jch cyI jdE) s.heap := hP
  have hl := lv_entry ([.ref a0]) (n := 1) (Nat.le_of_ble_eq_true rfl)
  rw [lg_entry_eq]
  generalize (lg_sl ([.ref a0]) ++ List.replicate (1 - (lg_sl ([.ref a0])).length) Slot.unset).toArray = ls at hl ⊢
  have hl : lv_has ls 1 [(0, .ref a0)] := hl
  have C0 : cfx p s m _ meth c cX1_freeOnes (some .int) wsX1_freeOnes RX1 1 A (dC, dI) (kT cyB cyI cyJ cyP) := ⟨hx, hb, hr, hts, hown, hlocks, hml, hA, hK, hNw⟩
  clear hAe
  obtain ⟨H, hH⟩ : ∃ H, H = s.heap := ⟨_, rfl⟩
  rw [← hH] at hP ⊢
  have hS : va_S A s.heap H [] := by rw [hH]; exact va_S.rf
  have hS := hS
  refine lv_iconst (v := 1) hx hb (dt_of tkX1_freeOnes_k0 0 rfl) (by decide) ?_
  refine lv_aload_n hx hb (dt_of tkX1_freeOnes_k0 1 rfl) rfl (lv_at hl 0 rfl) ?_
  refine va_get (D := (dC, dI)) (ci := 1) (v := .ref jfB) (C := RX1) (T := TX1) (N := 4) hx hb hts ui_X1_freeOnes_X1 hown hK hP 0 rfl rfl 2 (by decide) (hts _ uw_X1_freeOnes_f24) (fun _ h9 => h9) rfl (dt_of tkX1_freeOnes_k0 2 rfl) ?_
  refine va_get (D := (dC, dI)) (ci := 2) (v := .int jc5) (C := RX2) (T := TX2) (N := 12) hx hb hts ui_X1_freeOnes_X2 hown hK hP 1 rfl rfl 9 (by decide) (hts _ uw_X1_freeOnes_f32) (fun _ h9 => h9) rfl (dt_of tkX1_freeOnes_k0 3 rfl) ?_
  refine lv_ishl hx hb (dt_of tkX1_freeOnes_k0 4 rfl) ?_
  refine lv_iconst (v := 1) hx hb (dt_of tkX1_freeOnes_k0 5 rfl) (by decide) ?_
  refine lv_isub hx hb (dt_of tkX1_freeOnes_k0 6 rfl) ?_
  refine lv_aload_n hx hb (dt_of tkX1_freeOnes_k0 7 rfl) rfl (lv_at hl 0 rfl) ?_
  refine va_get (D := (dC, dI)) (ci := 1) (v := .ref jch) (C := RX1) (T := TX1) (N := 4) hx hb hts ui_X1_freeOnes_X1 hown hK hP 0 rfl rfl 0 (by decide) (hts _ uw_X1_freeOnes_f13) (fun _ h9 => h9) rfl (dt_of tkX1_freeOnes_k0 8 rfl) ?_
  refine lv_iconst (v := 2) hx hb (dt_of tkX1_freeOnes_k0 9 rfl) (by decide) ?_
  refine va_iald hx hb hK hP 2 1 rfl rfl (vin (by decide)) (dt_of tkX1_freeOnes_k0 10 rfl) ?_
  refine lv_topi (fun x1 ex1 => ?_)
  have hw := hw x1 ex1
  refine lv_iconst (v := (-1)) hx hb (dt_of tkX1_freeOnes_k0 11 rfl) (by decide) ?_
  refine lv_ixor hx hb (dt_of tkX1_freeOnes_k0 12 rfl) ?_
  refine lv_iand hx hb (dt_of tkX1_freeOnes_k0 13 rfl) ?_
  refine lv_topi (fun x2 ex2 => ?_)
  have hw := hw x2 ex2
  exact ((W.iret (v := x2) hx hb hr (fun t ht hW => ⟨⟨x2, (), rfl, hw, by rw [ht]; exact hP, va_K.moved hW.alike hK, hD⟩, hS.F ht⟩) hS.2.2 (dt_of tkX1_freeOnes_k0 14 rfl)))
theorem ui_X1_strong_X1 : ∀ w ∈ u_ws RX1 TX1 4, w ∈ wsX1_strong := uiM mbX1_strong euX1 (by decide +kernel)
theorem uw_X1_strong_f13 : (.fieldLink RX1 13 "MarchHares$Days" "row" "[I" : Cond) ∈ wsX1_strong := mbX1_strong 276 (by decide +kernel)
set_option maxHeartbeats 4000000 in
set_option maxRecDepth 100000 in
theorem ck_X1_strong (l : Launch) (dC : Nat → ClassId) (dI : Nat → Nat → Nat) (cyB cyI cyJ cyP : ClassId) (a0 jch sz : Nat) (jcD ji6 jhx : Value) (jdE : Nat → Int32)  (p1 : Int32) {Q : Int32 → Prop} (hw : wq_X1_strong jdE  p1 Q) : Met l yX1_strong wsX1_strong ({ frames := 0, cells := 0, slots := 0, locals := 0 }) (va_Pc [.ref a0, .int p1] (cPc (dC, dI) (kT cyB cyI cyJ cyP) (wd00_4 a0 jch jcD ji6 jhx jch cyI jdE) sz)) (va_Qi (fun (r : Int32) (_ : Unit) => Q r ) (cB (dC, dI) (kT cyB cyI cyJ cyP) (va_A (wd00_4 a0 jch jcD ji6 jhx jch cyI jdE) sz) (fun u : Unit => ((wd00_4 a0 jch jcD ji6 jhx jch cyI jdE) : va_W))) (va_A (wd00_4 a0 jch jcD ji6 jhx jch cyI jdE) sz)) 0 0 (va_A (wd00_4 a0 jch jcD ji6 jhx jch cyI jdE) sz) := by
  refine Met.ofW (cc := cX1_strong) (maxL := 2) (ret := (some .int)) (by decide) rfl ?_
  intro p e s m args below meth c s₁ B hml hv
  obtain ⟨rfl, hsz, hP, hK, hD0, hNw⟩ := hv
  have hx := B.exec
  have hb := B.bytes
  have hr := B.returns
  have hts := atoms_spec (ws := wsX1_strong) B.pre
  have hown : s.vm.findClass RX1 = some m.cls := findClass_of_methodNamed B.named
  have hlocks := B.notSynchronized
  subst hsz
  have hD := hD0.self (sz := s.heap.size)
  generalize hAe : va_A (wd00_4 a0 jch jcD ji6 jhx jch cyI jdE) s.heap.size = A at hD ⊢
  have hA : ∀ q : Nat, s.heap.size ≤ q → A q := fun q h => by rw [← hAe]; exact Or.inr h
  have hS : va_S A s.heap s.heap [] := va_S.rf
  have hP : va_P (dC, dI) vwCl (wd00_4 a0 jch jcD ji6 jhx jch cyI jdE) s.heap := hP
  have hl := lv_entry ([.ref a0, .int p1]) (n := 2) (Nat.le_of_ble_eq_true rfl)
  rw [lg_entry_eq]
  generalize (lg_sl ([.ref a0, .int p1]) ++ List.replicate (2 - (lg_sl ([.ref a0, .int p1])).length) Slot.unset).toArray = ls at hl ⊢
  have hl : lv_has ls 2 [(0, .ref a0), (1, .int p1)] := hl
  have C0 : cfx p s m _ meth c cX1_strong (some .int) wsX1_strong RX1 2 A (dC, dI) (kT cyB cyI cyJ cyP) := ⟨hx, hb, hr, hts, hown, hlocks, hml, hA, hK, hNw⟩
  clear hAe
  obtain ⟨H, hH⟩ : ∃ H, H = s.heap := ⟨_, rfl⟩
  rw [← hH] at hP ⊢
  have hS : va_S A s.heap H [] := by rw [hH]; exact va_S.rf
  have hS := hS
  refine lv_aload_n hx hb (dt_of tkX1_strong_k0 0 rfl) rfl (lv_at hl 0 rfl) ?_
  refine va_get (D := (dC, dI)) (ci := 1) (v := .ref jch) (C := RX1) (T := TX1) (N := 4) hx hb hts ui_X1_strong_X1 hown hK hP 0 rfl rfl 0 (by decide) (hts _ uw_X1_strong_f13) (fun _ h9 => h9) rfl (dt_of tkX1_strong_k0 1 rfl) ?_
  refine lv_bipush (v := 10) hx hb (dt_of tkX1_strong_k0 2 rfl) (by decide) ?_
  refine lv_iload_n hx hb (dt_of tkX1_strong_k0 3 rfl) rfl (lv_at hl 1 rfl) ?_
  refine lv_iadd hx hb (dt_of tkX1_strong_k0 4 rfl) ?_
  refine lv_topi (fun x1 ex1 => ?_)
  have hw := hw x1 ex1
  obtain ⟨hi9, hw⟩ := hw
  refine va_iald hx hb hK hP 1 1 rfl rfl hi9 (dt_of tkX1_strong_k0 5 rfl) ?_
  refine lv_topi (fun x2 ex2 => ?_)
  have hw := hw x2 ex2
  exact ((W.iret (v := x2) hx hb hr (fun t ht hW => ⟨⟨x2, (), rfl, hw, by rw [ht]; exact hP, va_K.moved hW.alike hK, hD⟩, hS.F ht⟩) hS.2.2 (dt_of tkX1_strong_k0 6 rfl)))
theorem uw_X10_ordersWon_r0_inim : (.initialized "java/lang/Math" : Cond) ∈ wsX10_ordersWon := mbX10_ordersWon 651 (by decide +kernel)
theorem uw_X10_ordersWon_r0_m389 : (.methodLink RX10 389 Lib.Math.max.name : Cond) ∈ wsX10_ordersWon := mbX10_ordersWon 3404 (by decide +kernel)
theorem uw_X10_ordersWon_r0_mcmax : (.code Lib.Math.max.name Lib.Math.max.code 2 (some .int) : Cond) ∈ wsX10_ordersWon := mbX10_ordersWon 1931 (by decide +kernel)
theorem uw_X10_ordersWon_r0_msmax : (.static Lib.Math.max.name : Cond) ∈ wsX10_ordersWon := mbX10_ordersWon 1930 (by decide +kernel)
set_option maxHeartbeats 4000000 in
set_option maxRecDepth 100000 in
theorem kb_X10_ordersWon_r0_85 {p : Program} {l : Launch} {e : Env} {s : State} {m : MethodId} {args : Array Value} {below : List Frame} {meth : Method} {c : Code} {A : Nat → Prop} (dC : Nat → ClassId) (dI : Nat → Nat → Nat) (cyB cyI cyJ cyP : ClassId) (a0 jch : Nat) (jcD ji6 jhx : Value) (jdE : Nat → Int32) (Q : Int32 → Prop) (K22 : Int32 → Int32 → Int32 → Int32 → Int32 → Int32 → Prop) (hK22 : ∀ (H : Heap) (locs : List Loc) (ls : Array Slot) (l1 l2 l3 l4 l5 l6 : Int32), va_P (dC, dI) vwCl (wd00_4 a0 jch jcD ji6 jhx jch cyI jdE) H → va_D A (wd00_4 a0 jch jcD ji6 jhx jch cyI jdE) → va_S A s.heap H locs → lv_has ls 11 [(0, .ref a0), (1, .int l1), (2, .int l2), (3, .int l3), (4, .int l4), (5, .int l5), (6, .int l6)] → K22 l1 l2 l3 l4 l5 l6 → W p l e (headSpec wsX10_ordersWon ({ frames := 1, cells := 0, slots := 0, locals := 32 })).room s m args below meth c H locs 0 0 (MQ below (va_Qi (fun (r : Int32) (_ : Unit) => Q r ) (cB (dC, dI) (kT cyB cyI cyJ cyP) A (fun u : Unit => ((wd00_4 a0 jch jcD ji6 jhx jch cyI jdE) : va_W))) A) args s 0 0 A) (F0 m 22 ls [])) (C0 : cfx p s m args meth c cX10_ordersWon (some .int) wsX10_ordersWon RX10 11 A (dC, dI) (kT cyB cyI cyJ cyP)) : ∀ (H : Heap) (locs : List Loc) (ls : Array Slot) (l1 l2 l3 l4 l5 l6 l9 s0 s1 : Int32), va_P (dC, dI) vwCl (wd00_4 a0 jch jcD ji6 jhx jch cyI jdE) H → va_D A (wd00_4 a0 jch jcD ji6 jhx jch cyI jdE) → va_S A s.heap H locs → lv_has ls 11 [(0, .ref a0), (1, .int l1), (2, .int l2), (3, .int l3), (4, .int l4), (5, .int l5), (6, .int l6), (9, .int l9)] → wb_X10_ordersWon_r0_85 jdE Q K22 l1 l2 l3 l4 l5 l6 l9 s0 s1 → W p l e (headSpec wsX10_ordersWon ({ frames := 1, cells := 0, slots := 0, locals := 32 })).room s m args below meth c H locs 0 0 (MQ below (va_Qi (fun (r : Int32) (_ : Unit) => Q r ) (cB (dC, dI) (kT cyB cyI cyJ cyP) A (fun u : Unit => ((wd00_4 a0 jch jcD ji6 jhx jch cyI jdE) : va_W))) A) args s 0 0 A) (F0 m 85 ls [.int s1, .int s0]) := by
  obtain ⟨hx, hb, hr, hts, hown, hlocks, hml, hA, hK, hNw⟩ := id C0
  intro H locs ls l1 l2 l3 l4 l5 l6 l9 s0 s1 hP hD hS hl hw
  refine lv_iconst (v := 1) hx hb (dt_of tkX10_ordersWon_k62 11 rfl) (by decide) ?_
  refine lv_isub hx hb (dt_of tkX10_ordersWon_k62 12 rfl) ?_
  refine va_mmax hx hb (by rw [hml]; exact hl.1.symm) hown (hts _ uw_X10_ordersWon_r0_m389) (hts _ uw_X10_ordersWon_r0_msmax) (hts _ uw_X10_ordersWon_r0_inim) (hts _ uw_X10_ordersWon_r0_mcmax) (Nat.le_of_ble_eq_true rfl) (Nat.le_of_ble_eq_true rfl) (Nat.le_of_ble_eq_true rfl) (Nat.le_of_ble_eq_true rfl) (dt_of tkX10_ordersWon_k62 13 rfl) ?_
  refine lv_topi (fun x11 ex11 => ?_)
  have hw := hw x11 ex11
  refine lv_istore (lv' := [(10, .int x11), (0, .ref a0), (1, .int l1), (2, .int l2), (3, .int l3), (4, .int l4), (5, .int l5), (6, .int l6), (9, .int l9)]) hx hb (dt_of tkX10_ordersWon_k62 14 rfl) hl (by decide) rfl (fun ls hl => ?_)
  refine lv_iload hx hb (dt_of tkX10_ordersWon_k62 15 rfl) (lv_at hl 6 rfl) ?_
  refine lv_aload_n hx hb (dt_of tkX10_ordersWon_k94 0 rfl) rfl (lv_at hl 1 rfl) ?_
  refine lv_iload_n hx hb (dt_of tkX10_ordersWon_k94 1 rfl) rfl (lv_at hl 2 rfl) ?_
  refine lv_iload hx hb (dt_of tkX10_ordersWon_k94 2 rfl) (lv_at hl 8 rfl) ?_
  refine lv_iload hx hb (dt_of tkX10_ordersWon_k94 3 rfl) (lv_at hl 0 rfl) ?_
  refine lv_iload hx hb (dt_of tkX10_ordersWon_k94 4 rfl) (lv_at hl 5 rfl) ?_
  refine lv_iconst (v := 1) hx hb (dt_of tkX10_ordersWon_k94 5 rfl) (by decide) ?_
  refine lv_iload hx hb (dt_of tkX10_ordersWon_k94 6 rfl) (lv_at hl 7 rfl) ?_
  refine lv_ishl hx hb (dt_of tkX10_ordersWon_k94 7 rfl) ?_
  refine lv_ixor hx hb (dt_of tkX10_ordersWon_k94 8 rfl) ?_
  exact False.elim hw
set_option maxHeartbeats 4000000 in
set_option maxRecDepth 100000 in
theorem kb_X10_ordersWon_r0_71 {p : Program} {l : Launch} {e : Env} {s : State} {m : MethodId} {args : Array Value} {below : List Frame} {meth : Method} {c : Code} {A : Nat → Prop} (dC : Nat → ClassId) (dI : Nat → Nat → Nat) (cyB cyI cyJ cyP : ClassId) (a0 jch : Nat) (jcD ji6 jhx : Value) (jdE : Nat → Int32) (Q : Int32 → Prop) (K22 : Int32 → Int32 → Int32 → Int32 → Int32 → Int32 → Prop) (hK22 : ∀ (H : Heap) (locs : List Loc) (ls : Array Slot) (l1 l2 l3 l4 l5 l6 : Int32), va_P (dC, dI) vwCl (wd00_4 a0 jch jcD ji6 jhx jch cyI jdE) H → va_D A (wd00_4 a0 jch jcD ji6 jhx jch cyI jdE) → va_S A s.heap H locs → lv_has ls 11 [(0, .ref a0), (1, .int l1), (2, .int l2), (3, .int l3), (4, .int l4), (5, .int l5), (6, .int l6)] → K22 l1 l2 l3 l4 l5 l6 → W p l e (headSpec wsX10_ordersWon ({ frames := 1, cells := 0, slots := 0, locals := 32 })).room s m args below meth c H locs 0 0 (MQ below (va_Qi (fun (r : Int32) (_ : Unit) => Q r ) (cB (dC, dI) (kT cyB cyI cyJ cyP) A (fun u : Unit => ((wd00_4 a0 jch jcD ji6 jhx jch cyI jdE) : va_W))) A) args s 0 0 A) (F0 m 22 ls [])) (C0 : cfx p s m args meth c cX10_ordersWon (some .int) wsX10_ordersWon RX10 11 A (dC, dI) (kT cyB cyI cyJ cyP)) : ∀ (H : Heap) (locs : List Loc) (ls : Array Slot) (l1 l2 l3 l4 l5 l6 l7 l8 s0 : Int32), va_P (dC, dI) vwCl (wd00_4 a0 jch jcD ji6 jhx jch cyI jdE) H → va_D A (wd00_4 a0 jch jcD ji6 jhx jch cyI jdE) → va_S A s.heap H locs → lv_has ls 11 [(0, .ref a0), (1, .int l1), (2, .int l2), (3, .int l3), (4, .int l4), (5, .int l5), (6, .int l6), (7, .int l7), (8, .int l8)] → wb_X10_ordersWon_r0_71 jdE Q K22 l1 l2 l3 l4 l5 l6 l7 l8 s0 → W p l e (headSpec wsX10_ordersWon ({ frames := 1, cells := 0, slots := 0, locals := 32 })).room s m args below meth c H locs 0 0 (MQ below (va_Qi (fun (r : Int32) (_ : Unit) => Q r ) (cB (dC, dI) (kT cyB cyI cyJ cyP) A (fun u : Unit => ((wd00_4 a0 jch jcD ji6 jhx jch cyI jdE) : va_W))) A) args s 0 0 A) (F0 m 71 ls [.int s0]) := by
  obtain ⟨hx, hb, hr, hts, hown, hlocks, hml, hA, hK, hNw⟩ := id C0
  intro H locs ls l1 l2 l3 l4 l5 l6 l7 l8 s0 hP hD hS hl hw
  refine lv_istore (lv' := [(9, .int s0), (0, .ref a0), (1, .int l1), (2, .int l2), (3, .int l3), (4, .int l4), (5, .int l5), (6, .int l6), (7, .int l7), (8, .int l8)]) hx hb (dt_of tkX10_ordersWon_k62 4 rfl) hl (by decide) rfl (fun ls hl => ?_)
  refine lv_iconst (v := 0) hx hb (dt_of tkX10_ordersWon_k62 5 rfl) (by decide) ?_
  refine lv_iload hx hb (dt_of tkX10_ordersWon_k62 6 rfl) (lv_at hl 9 rfl) ?_
  refine lv_if_eq (tgt := 83) hx hb (dt_of tkX10_ordersWon_k62 7 rfl) (by decide) (fun c10 => ?_) (fun c10 => ?_)
  · have hw := hw.1 c10
    refine lv_iload hx hb (dt_of tkX10_ordersWon_k62 10 rfl) (lv_at hl 8 rfl) ?_
    exact kb_X10_ordersWon_r0_85 dC dI cyB cyI cyJ cyP a0 jch jcD ji6 jhx jdE Q K22 hK22 C0 _ _ _ l1 l2 l3 l4 l5 l6 s0 0 l7 hP hD hS (lv_sub hl [1, 2, 3, 4, 5, 6, 7, 0] rfl) hw
  · have hw := hw.2 c10
    refine lv_iload_n hx hb (dt_of tkX10_ordersWon_k62 8 rfl) rfl (lv_at hl 4 rfl) ?_
    refine lv_goto (tgt := 85) hx hb (dt_of tkX10_ordersWon_k62 9 rfl) (by decide) ?_
    exact kb_X10_ordersWon_r0_85 dC dI cyB cyI cyJ cyP a0 jch jcD ji6 jhx jdE Q K22 hK22 C0 _ _ _ l1 l2 l3 l4 l5 l6 s0 0 l3 hP hD hS (lv_sub hl [1, 2, 3, 4, 5, 6, 7, 0] rfl) hw
set_option maxHeartbeats 4000000 in
set_option maxRecDepth 100000 in
theorem kb_X10_ordersWon_r0_58 {p : Program} {l : Launch} {e : Env} {s : State} {m : MethodId} {args : Array Value} {below : List Frame} {meth : Method} {c : Code} {A : Nat → Prop} (dC : Nat → ClassId) (dI : Nat → Nat → Nat) (cyB cyI cyJ cyP : ClassId) (a0 jch : Nat) (jcD ji6 jhx : Value) (jdE : Nat → Int32) (Q : Int32 → Prop) (K22 : Int32 → Int32 → Int32 → Int32 → Int32 → Int32 → Prop) (hK22 : ∀ (H : Heap) (locs : List Loc) (ls : Array Slot) (l1 l2 l3 l4 l5 l6 : Int32), va_P (dC, dI) vwCl (wd00_4 a0 jch jcD ji6 jhx jch cyI jdE) H → va_D A (wd00_4 a0 jch jcD ji6 jhx jch cyI jdE) → va_S A s.heap H locs → lv_has ls 11 [(0, .ref a0), (1, .int l1), (2, .int l2), (3, .int l3), (4, .int l4), (5, .int l5), (6, .int l6)] → K22 l1 l2 l3 l4 l5 l6 → W p l e (headSpec wsX10_ordersWon ({ frames := 1, cells := 0, slots := 0, locals := 32 })).room s m args below meth c H locs 0 0 (MQ below (va_Qi (fun (r : Int32) (_ : Unit) => Q r ) (cB (dC, dI) (kT cyB cyI cyJ cyP) A (fun u : Unit => ((wd00_4 a0 jch jcD ji6 jhx jch cyI jdE) : va_W))) A) args s 0 0 A) (F0 m 22 ls [])) (C0 : cfx p s m args meth c cX10_ordersWon (some .int) wsX10_ordersWon RX10 11 A (dC, dI) (kT cyB cyI cyJ cyP)) : ∀ (H : Heap) (locs : List Loc) (ls : Array Slot) (l1 l2 l3 l4 l5 l6 l7 s0 : Int32), va_P (dC, dI) vwCl (wd00_4 a0 jch jcD ji6 jhx jch cyI jdE) H → va_D A (wd00_4 a0 jch jcD ji6 jhx jch cyI jdE) → va_S A s.heap H locs → lv_has ls 11 [(0, .ref a0), (1, .int l1), (2, .int l2), (3, .int l3), (4, .int l4), (5, .int l5), (6, .int l6), (7, .int l7)] → wb_X10_ordersWon_r0_58 jdE Q K22 l1 l2 l3 l4 l5 l6 l7 s0 → W p l e (headSpec wsX10_ordersWon ({ frames := 1, cells := 0, slots := 0, locals := 32 })).room s m args below meth c H locs 0 0 (MQ below (va_Qi (fun (r : Int32) (_ : Unit) => Q r ) (cB (dC, dI) (kT cyB cyI cyJ cyP) A (fun u : Unit => ((wd00_4 a0 jch jcD ji6 jhx jch cyI jdE) : va_W))) A) args s 0 0 A) (F0 m 58 ls [.int s0]) := by
  obtain ⟨hx, hb, hr, hts, hown, hlocks, hml, hA, hK, hNw⟩ := id C0
  intro H locs ls l1 l2 l3 l4 l5 l6 l7 s0 hP hD hS hl hw
  refine lv_istore (lv' := [(8, .int s0), (0, .ref a0), (1, .int l1), (2, .int l2), (3, .int l3), (4, .int l4), (5, .int l5), (6, .int l6), (7, .int l7)]) hx hb (dt_of tkX10_ordersWon_k29 14 rfl) hl (by decide) rfl (fun ls hl => ?_)
  refine lv_iload hx hb (dt_of tkX10_ordersWon_k29 15 rfl) (lv_at hl 0 rfl) ?_
  refine lv_if_eq (tgt := 69) hx hb (dt_of tkX10_ordersWon_k62 0 rfl) (by decide) (fun c9 => ?_) (fun c9 => ?_)
  · have hw := hw.1 c9
    refine lv_iload hx hb (dt_of tkX10_ordersWon_k62 3 rfl) (lv_at hl 7 rfl) ?_
    exact kb_X10_ordersWon_r0_71 dC dI cyB cyI cyJ cyP a0 jch jcD ji6 jhx jdE Q K22 hK22 C0 _ _ _ l1 l2 l3 l4 l5 l6 l7 s0 l6 hP hD hS (lv_sub hl [1, 2, 3, 4, 5, 6, 7, 8, 0] rfl) hw
  · have hw := hw.2 c9
    refine lv_iload_n hx hb (dt_of tkX10_ordersWon_k62 1 rfl) rfl (lv_at hl 3 rfl) ?_
    refine lv_goto (tgt := 71) hx hb (dt_of tkX10_ordersWon_k62 2 rfl) (by decide) ?_
    exact kb_X10_ordersWon_r0_71 dC dI cyB cyI cyJ cyP a0 jch jcD ji6 jhx jdE Q K22 hK22 C0 _ _ _ l1 l2 l3 l4 l5 l6 l7 s0 l2 hP hD hS (lv_sub hl [1, 2, 3, 4, 5, 6, 7, 8, 0] rfl) hw
set_option maxHeartbeats 4000000 in
set_option maxRecDepth 100000 in
theorem kb_X10_ordersWon_r0_113 {p : Program} {l : Launch} {e : Env} {s : State} {m : MethodId} {args : Array Value} {below : List Frame} {meth : Method} {c : Code} {A : Nat → Prop} (dC : Nat → ClassId) (dI : Nat → Nat → Nat) (cyB cyI cyJ cyP : ClassId) (a0 jch : Nat) (jcD ji6 jhx : Value) (jdE : Nat → Int32) (Q : Int32 → Prop) (K22 : Int32 → Int32 → Int32 → Int32 → Int32 → Int32 → Prop) (hK22 : ∀ (H : Heap) (locs : List Loc) (ls : Array Slot) (l1 l2 l3 l4 l5 l6 : Int32), va_P (dC, dI) vwCl (wd00_4 a0 jch jcD ji6 jhx jch cyI jdE) H → va_D A (wd00_4 a0 jch jcD ji6 jhx jch cyI jdE) → va_S A s.heap H locs → lv_has ls 11 [(0, .ref a0), (1, .int l1), (2, .int l2), (3, .int l3), (4, .int l4), (5, .int l5), (6, .int l6)] → K22 l1 l2 l3 l4 l5 l6 → W p l e (headSpec wsX10_ordersWon ({ frames := 1, cells := 0, slots := 0, locals := 32 })).room s m args below meth c H locs 0 0 (MQ below (va_Qi (fun (r : Int32) (_ : Unit) => Q r ) (cB (dC, dI) (kT cyB cyI cyJ cyP) A (fun u : Unit => ((wd00_4 a0 jch jcD ji6 jhx jch cyI jdE) : va_W))) A) args s 0 0 A) (F0 m 22 ls [])) (C0 : cfx p s m args meth c cX10_ordersWon (some .int) wsX10_ordersWon RX10 11 A (dC, dI) (kT cyB cyI cyJ cyP)) : ∀ (H : Heap) (locs : List Loc) (ls : Array Slot) (l1 l2 l3 l4 l5 l6 : Int32), va_P (dC, dI) vwCl (wd00_4 a0 jch jcD ji6 jhx jch cyI jdE) H → va_D A (wd00_4 a0 jch jcD ji6 jhx jch cyI jdE) → va_S A s.heap H locs → lv_has ls 11 [(0, .ref a0), (1, .int l1), (2, .int l2), (3, .int l3), (4, .int l4), (5, .int l5), (6, .int l6)] → wb_X10_ordersWon_r0_113 jdE Q K22 l1 l2 l3 l4 l5 l6 → W p l e (headSpec wsX10_ordersWon ({ frames := 1, cells := 0, slots := 0, locals := 32 })).room s m args below meth c H locs 0 0 (MQ below (va_Qi (fun (r : Int32) (_ : Unit) => Q r ) (cB (dC, dI) (kT cyB cyI cyJ cyP) A (fun u : Unit => ((wd00_4 a0 jch jcD ji6 jhx jch cyI jdE) : va_W))) A) args s 0 0 A) (F0 m 113 ls []) := by
  obtain ⟨hx, hb, hr, hts, hown, hlocks, hml, hA, hK, hNw⟩ := id C0
  intro H locs ls l1 l2 l3 l4 l5 l6 hP hD hS hl hw
  obtain ⟨x8, ex8⟩ : ∃ y : Int32, y = l6 + 1 := ⟨_, rfl⟩
  have hw := hw x8 ex8
  refine lv_iinc (v := x8) (lv' := [(6, .int x8), (0, .ref a0), (1, .int l1), (2, .int l2), (3, .int l3), (4, .int l4), (5, .int l5)]) hx hb (dt_of tkX10_ordersWon_k94 12 rfl) hl (k := 6) rfl (by rw [ex8]; rfl) (by decide) rfl (fun ls hl => ?_)
  refine lv_goto (tgt := 22) hx hb (dt_of tkX10_ordersWon_k94 13 rfl) (by decide) ?_
  exact hK22 _ _ _ l1 l2 l3 l4 l5 x8 hP hD hS (lv_sub hl [1, 2, 3, 4, 5, 6, 0] rfl) hw
set_option maxHeartbeats 4000000 in
set_option maxRecDepth 100000 in
theorem kl_X10_ordersWon_r0_22 {p : Program} {l : Launch} {e : Env} {s : State} {m : MethodId} {args : Array Value} {below : List Frame} {meth : Method} {c : Code} {A : Nat → Prop} (dC : Nat → ClassId) (dI : Nat → Nat → Nat) (cyB cyI cyJ cyP : ClassId) (a0 jch : Nat) (jcD ji6 jhx : Value) (jdE : Nat → Int32) (Q : Int32 → Prop)  (C0 : cfx p s m args meth c cX10_ordersWon (some .int) wsX10_ordersWon RX10 11 A (dC, dI) (kT cyB cyI cyJ cyP)) : ∀ (n : Nat) (H : Heap) (locs : List Loc) (ls : Array Slot) (l1 l2 l3 l4 l5 l6 : Int32), va_P (dC, dI) vwCl (wd00_4 a0 jch jcD ji6 jhx jch cyI jdE) H → va_D A (wd00_4 a0 jch jcD ji6 jhx jch cyI jdE) → va_S A s.heap H locs → lv_has ls 11 [(0, .ref a0), (1, .int l1), (2, .int l2), (3, .int l3), (4, .int l4), (5, .int l5), (6, .int l6)] → wl_X10_ordersWon_r0_22 jdE Q  n l1 l2 l3 l4 l5 l6 → W p l e (headSpec wsX10_ordersWon ({ frames := 1, cells := 0, slots := 0, locals := 32 })).room s m args below meth c H locs 0 0 (MQ below (va_Qi (fun (r : Int32) (_ : Unit) => Q r ) (cB (dC, dI) (kT cyB cyI cyJ cyP) A (fun u : Unit => ((wd00_4 a0 jch jcD ji6 jhx jch cyI jdE) : va_W))) A) args s 0 0 A) (F0 m 22 ls []) := by
  obtain ⟨hx, hb, hr, hts, hown, hlocks, hml, hA, hK, hNw⟩ := id C0
  intro n
  induction n with
  | zero => intro H locs ls l1 l2 l3 l4 l5 l6 hP hD hS hl hw; exact False.elim hw
  | succ n ih =>
    intro H locs ls l1 l2 l3 l4 l5 l6 hP hD hS hl hw
    refine lv_iload hx hb (dt_of tkX10_ordersWon_k0 13 rfl) (lv_at hl 6 rfl) ?_
    refine lv_bipush (v := 6) hx hb (dt_of tkX10_ordersWon_k0 14 rfl) (by decide) ?_
    refine lv_icmp_ge (tgt := 119) hx hb (dt_of tkX10_ordersWon_k0 15 rfl) (by decide) (fun c3 => ?_) (fun c3 => ?_)
    · have hw := hw.1 c3
      refine lv_iload hx hb (dt_of tkX10_ordersWon_k94 14 rfl) (lv_at hl 5 rfl) ?_
      exact ((W.iret (v := l5) hx hb hr (fun t ht hW => ⟨⟨l5, (), rfl, hw, by rw [ht]; exact hP, va_K.moved hW.alike hK, hD⟩, hS.F ht⟩) hS.2.2 (dt_of tkX10_ordersWon_k94 15 rfl)))
    · have hw := hw.2 c3
      refine lv_iload hx hb (dt_of tkX10_ordersWon_k29 0 rfl) (lv_at hl 4 rfl) ?_
      refine lv_iload hx hb (dt_of tkX10_ordersWon_k29 1 rfl) (lv_at hl 6 rfl) ?_
      obtain ⟨hCc, hPc, hDc, hFc⟩ := va_pick (ws' := []) hP hD hS hA [] (by decide +kernel) rfl
      refine va_calli (va_runS (As := [.int l4, .int l6]) (rest := []) ⟨hx, hb, hml, hown, hts⟩ (ck_X10_holds l dC dI cyB cyI cyJ cyP  H.size    l4 l6 hw) (va_cwS 2 hts gX10_ordersWon_X10_holds rfl rfl rfl (by decide +kernel) ⟨Nat.le_of_ble_eq_true rfl, Nat.le_of_ble_eq_true rfl⟩) ⟨cPc_blind, cPc_pre hPc hK hDc hNw⟩ rfl rfl hl.1 rfl (lv_room (Nat.le_of_ble_eq_true rfl)) (dt_of tkX10_ordersWon_k29 2 rfl) ⟨Nat.le_of_ble_eq_true rfl, Nat.le_of_ble_eq_true rfl⟩) hS (fun q _ h => hFc q h) hFc (fun r4 u t H1 locs ht hvm hw hB hz1 hk1 hS => ?_)
      obtain ⟨hP1, hK1, hD1⟩ := hB
      rw [ht] at hP1
      obtain ⟨hP, hD⟩ := va_joinI (wr := (wd00_4 a0 jch jcD ji6 jhx jch cyI jdE)) (w1 := []) (wn := (wd00_4 a0 jch jcD ji6 jhx jch cyI jdE)) hP hD [] [0, 1] hCc rfl (by decide +kernel) (by decide +kernel) rfl hk1 hFc hP1 hD1
      generalize H1 = H at hP hS ⊢
      refine lv_if_eq (tgt := 113) hx hb (dt_of tkX10_ordersWon_k29 3 rfl) (by decide) (fun c5 => ?_) (fun c5 => ?_)
      · have hw := hw.1 c5
        exact kb_X10_ordersWon_r0_113 dC dI cyB cyI cyJ cyP a0 jch jcD ji6 jhx jdE Q (wl_X10_ordersWon_r0_22 jdE Q  n) ih C0 _ _ _ l1 l2 l3 l4 l5 l6 hP hD hS (lv_sub hl [0, 1, 2, 3, 4, 5, 6] rfl) hw
      · have hw := hw.2 c5
        refine lv_aload_n hx hb (dt_of tkX10_ordersWon_k29 4 rfl) rfl (lv_at hl 0 rfl) ?_
        refine lv_iload hx hb (dt_of tkX10_ordersWon_k29 5 rfl) (lv_at hl 6 rfl) ?_
        obtain ⟨hCc, hPc, hDc, hFc⟩ := va_pick (ws' := (wd00_4 a0 jch jcD ji6 jhx jch cyI jdE)) hP hD hS hA [0, 1] (by decide +kernel) rfl
        refine va_calli (va_runV (As := [.int l6]) (rest := []) ⟨hx, hb, hml, hown, hts⟩ (ck_X1_strong l dC dI cyB cyI cyJ cyP a0 jch H.size (jcD) (ji6) (jhx) jdE  l6 hw) (cwV 1 hts gX10_ordersWon_X1_strong rfl rfl rfl (by decide +kernel) ⟨Nat.le_of_ble_eq_true rfl, Nat.le_of_ble_eq_true rfl⟩) ⟨cPc_blind, va_recv (q := (RX1, TX1, 4)) hK hPc (ci := 1) (q0 := 0) rfl rfl, cPc_pre hPc hK hDc hNw⟩ rfl rfl hl.1 rfl (lv_room (Nat.le_of_ble_eq_true rfl)) (dt_of tkX10_ordersWon_k29 6 rfl) ⟨Nat.le_of_ble_eq_true rfl, Nat.le_of_ble_eq_true rfl⟩) hS (fun q _ h => hFc q h) hFc (fun r6 u t H1 locs ht hvm hw hB hz1 hk1 hS => ?_)
        obtain ⟨hP1, hK1, hD1⟩ := hB
        rw [ht] at hP1
        obtain ⟨hP, hD⟩ := va_joinI (wr := []) (w1 := (wd00_4 a0 jch jcD ji6 jhx jch cyI jdE)) (wn := (wd00_4 a0 jch jcD ji6 jhx jch cyI jdE)) hP hD [0, 1] [] hCc rfl (by decide +kernel) (by decide +kernel) rfl hk1 hFc hP1 hD1
        generalize H1 = H at hP hS ⊢
        refine lv_istore (lv' := [(7, .int r6), (0, .ref a0), (1, .int l1), (2, .int l2), (3, .int l3), (4, .int l4), (5, .int l5), (6, .int l6)]) hx hb (dt_of tkX10_ordersWon_k29 7 rfl) hl (by decide) rfl (fun ls hl => ?_)
        refine lv_iload_n hx hb (dt_of tkX10_ordersWon_k29 8 rfl) rfl (lv_at hl 4 rfl) ?_
        refine lv_iload hx hb (dt_of tkX10_ordersWon_k29 9 rfl) (lv_at hl 0 rfl) ?_
        refine lv_icmp_lt (tgt := 57) hx hb (dt_of tkX10_ordersWon_k29 10 rfl) (by decide) (fun c7 => ?_) (fun c7 => ?_)
        · have hw := hw.1 c7
          refine lv_iconst (v := 0) hx hb (dt_of tkX10_ordersWon_k29 13 rfl) (by decide) ?_
          exact kb_X10_ordersWon_r0_58 dC dI cyB cyI cyJ cyP a0 jch jcD ji6 jhx jdE Q (wl_X10_ordersWon_r0_22 jdE Q  n) ih C0 _ _ _ l1 l2 l3 l4 l5 l6 r6 0 hP hD hS (lv_sub hl [1, 2, 3, 4, 5, 6, 7, 0] rfl) hw
        · have hw := hw.2 c7
          refine lv_iconst (v := 1) hx hb (dt_of tkX10_ordersWon_k29 11 rfl) (by decide) ?_
          refine lv_goto (tgt := 58) hx hb (dt_of tkX10_ordersWon_k29 12 rfl) (by decide) ?_
          exact kb_X10_ordersWon_r0_58 dC dI cyB cyI cyJ cyP a0 jch jcD ji6 jhx jdE Q (wl_X10_ordersWon_r0_22 jdE Q  n) ih C0 _ _ _ l1 l2 l3 l4 l5 l6 r6 1 hP hD hS (lv_sub hl [1, 2, 3, 4, 5, 6, 7, 0] rfl) hw
set_option maxHeartbeats 4000000 in
set_option maxRecDepth 100000 in
theorem ck_X10_ordersWon_r0 (l : Launch) (dC : Nat → ClassId) (dI : Nat → Nat → Nat) (cyB cyI cyJ cyP : ClassId) (a0 jch sz : Nat) (jcD ji6 jhx : Value) (jdE : Nat → Int32)  (p1 p2 p3 p4 : Int32) {Q : Int32 → Prop} (hw : wq_X10_ordersWon_r0 jdE  p1 p2 p3 p4 Q) : Met l yX10_ordersWon wsX10_ordersWon ({ frames := 1, cells := 0, slots := 0, locals := 32 }) (va_Pc [.ref a0, .int p1, .int p2, .int p3, .int p4] (cPc (dC, dI) (kT cyB cyI cyJ cyP) (wd00_4 a0 jch jcD ji6 jhx jch cyI jdE) sz)) (va_Qi (fun (r : Int32) (_ : Unit) => Q r ) (cB (dC, dI) (kT cyB cyI cyJ cyP) (va_A (wd00_4 a0 jch jcD ji6 jhx jch cyI jdE) sz) (fun u : Unit => ((wd00_4 a0 jch jcD ji6 jhx jch cyI jdE) : va_W))) (va_A (wd00_4 a0 jch jcD ji6 jhx jch cyI jdE) sz)) 0 0 (va_A (wd00_4 a0 jch jcD ji6 jhx jch cyI jdE) sz) := by
  refine Met.ofW (cc := cX10_ordersWon) (maxL := 11) (ret := (some .int)) (by decide) rfl ?_
  intro p e s m args below meth c s₁ B hml hv
  obtain ⟨rfl, hsz, hP, hK, hD0, hNw⟩ := hv
  have hx := B.exec
  have hb := B.bytes
  have hr := B.returns
  have hts := atoms_spec (ws := wsX10_ordersWon) B.pre
  have hown : s.vm.findClass RX10 = some m.cls := findClass_of_methodNamed B.named
  have hlocks := B.notSynchronized
  subst hsz
  have hD := hD0.self (sz := s.heap.size)
  generalize hAe : va_A (wd00_4 a0 jch jcD ji6 jhx jch cyI jdE) s.heap.size = A at hD ⊢
  have hA : ∀ q : Nat, s.heap.size ≤ q → A q := fun q h => by rw [← hAe]; exact Or.inr h
  have hS : va_S A s.heap s.heap [] := va_S.rf
  have hP : va_P (dC, dI) vwCl (wd00_4 a0 jch jcD ji6 jhx jch cyI jdE) s.heap := hP
  have hl := lv_entry ([.ref a0, .int p1, .int p2, .int p3, .int p4]) (n := 11) (Nat.le_of_ble_eq_true rfl)
  rw [lg_entry_eq]
  generalize (lg_sl ([.ref a0, .int p1, .int p2, .int p3, .int p4]) ++ List.replicate (11 - (lg_sl ([.ref a0, .int p1, .int p2, .int p3, .int p4])).length) Slot.unset).toArray = ls at hl ⊢
  have hl : lv_has ls 11 [(0, .ref a0), (1, .int p1), (2, .int p2), (3, .int p3), (4, .int p4)] := hl
  have C0 : cfx p s m _ meth c cX10_ordersWon (some .int) wsX10_ordersWon RX10 11 A (dC, dI) (kT cyB cyI cyJ cyP) := ⟨hx, hb, hr, hts, hown, hlocks, hml, hA, hK, hNw⟩
  clear hAe
  obtain ⟨H, hH⟩ : ∃ H, H = s.heap := ⟨_, rfl⟩
  rw [← hH] at hP ⊢
  have hS : va_S A s.heap H [] := by rw [hH]; exact va_S.rf
  have hS := hS
  refine lv_iload hx hb (dt_of tkX10_ordersWon_k0 0 rfl) (lv_at hl 4 rfl) ?_
  refine lv_if_ne (tgt := 16) hx hb (dt_of tkX10_ordersWon_k0 1 rfl) (by decide) (fun c1 => ?_) (fun c1 => ?_)
  · have hw := hw.1 c1
    refine lv_iconst (v := 0) hx hb (dt_of tkX10_ordersWon_k0 9 rfl) (by decide) ?_
    refine lv_istore (lv' := [(5, .int 0), (0, .ref a0), (1, .int p1), (2, .int p2), (3, .int p3), (4, .int p4)]) hx hb (dt_of tkX10_ordersWon_k0 10 rfl) hl (by decide) rfl (fun ls hl => ?_)
    refine lv_iconst (v := 0) hx hb (dt_of tkX10_ordersWon_k0 11 rfl) (by decide) ?_
    refine lv_istore (lv' := [(6, .int 0), (5, .int 0), (0, .ref a0), (1, .int p1), (2, .int p2), (3, .int p3), (4, .int p4)]) hx hb (dt_of tkX10_ordersWon_k0 12 rfl) hl (by decide) rfl (fun ls hl => ?_)
    obtain ⟨n9, hw⟩ := hw
    exact kl_X10_ordersWon_r0_22 dC dI cyB cyI cyJ cyP a0 jch jcD ji6 jhx jdE Q  C0 n9 _ _ _ p1 p2 p3 p4 0 0 hP hD hS (lv_sub hl [2, 3, 4, 5, 6, 1, 0] rfl) hw
  · have hw := hw.2 c1
    refine lv_iload_n hx hb (dt_of tkX10_ordersWon_k0 2 rfl) rfl (lv_at hl 2 rfl) ?_
    refine lv_iload_n hx hb (dt_of tkX10_ordersWon_k0 3 rfl) rfl (lv_at hl 1 rfl) ?_
    refine lv_icmp_ne (tgt := 14) hx hb (dt_of tkX10_ordersWon_k0 4 rfl) (by decide) (fun c2 => ?_) (fun c2 => ?_)
    · have hw := hw.1 c2
      refine lv_iconst (v := 0) hx hb (dt_of tkX10_ordersWon_k0 7 rfl) (by decide) ?_
      exact ((W.iret (v := 0) hx hb hr (fun t ht hW => ⟨⟨0, (), rfl, hw, by rw [ht]; exact hP, va_K.moved hW.alike hK, hD⟩, hS.F ht⟩) hS.2.2 (dt_of tkX10_ordersWon_k0 8 rfl)))
    · have hw := hw.2 c2
      refine lv_iconst (v := 1) hx hb (dt_of tkX10_ordersWon_k0 5 rfl) (by decide) ?_
      refine lv_goto (tgt := 15) hx hb (dt_of tkX10_ordersWon_k0 6 rfl) (by decide) ?_
      exact ((W.iret (v := 1) hx hb hr (fun t ht hW => ⟨⟨1, (), rfl, hw, by rw [ht]; exact hP, va_K.moved hW.alike hK, hD⟩, hS.F ht⟩) hS.2.2 (dt_of tkX10_ordersWon_k0 8 rfl)))
theorem uw_X10_ordersWon_r2_inim : (.initialized "java/lang/Math" : Cond) ∈ wsX10_ordersWon := mbX10_ordersWon 651 (by decide +kernel)
theorem uw_X10_ordersWon_r2_m389 : (.methodLink RX10 389 Lib.Math.max.name : Cond) ∈ wsX10_ordersWon := mbX10_ordersWon 3404 (by decide +kernel)
theorem uw_X10_ordersWon_r2_mcmax : (.code Lib.Math.max.name Lib.Math.max.code 2 (some .int) : Cond) ∈ wsX10_ordersWon := mbX10_ordersWon 1931 (by decide +kernel)
theorem uw_X10_ordersWon_r2_msmax : (.static Lib.Math.max.name : Cond) ∈ wsX10_ordersWon := mbX10_ordersWon 1930 (by decide +kernel)
set_option maxHeartbeats 4000000 in
set_option maxRecDepth 100000 in
theorem kb_X10_ordersWon_g_113 (RS : (Nat → Int32) → Int32 → Int32 → Int32 → Int32 → (Int32 → Prop) → Prop) (fr lo : Nat) (hRw : ∀ (l : Launch) (dC : Nat → ClassId) (dI : Nat → Nat → Nat) (cyB cyI cyJ cyP : ClassId) (a0 jch sz : Nat) (jcD ji6 jhx : Value) (jdE : Nat → Int32) (p1 p2 p3 p4 : Int32) {Q : Int32 → Prop} (hw : RS jdE  p1 p2 p3 p4 Q), Met l yX10_ordersWon wsX10_ordersWon ({ frames := fr, cells := 0, slots := 0, locals := lo }) (va_Pc [.ref a0, .int p1, .int p2, .int p3, .int p4] (cPc (dC, dI) (kT cyB cyI cyJ cyP) (wd00_4 a0 jch jcD ji6 jhx jch cyI jdE) sz)) (va_Qi (fun (r : Int32) (_ : Unit) => Q r ) (cB (dC, dI) (kT cyB cyI cyJ cyP) (va_A (wd00_4 a0 jch jcD ji6 jhx jch cyI jdE) sz) (fun u : Unit => ((wd00_4 a0 jch jcD ji6 jhx jch cyI jdE) : va_W))) (va_A (wd00_4 a0 jch jcD ji6 jhx jch cyI jdE) sz)) 0 0 (va_A (wd00_4 a0 jch jcD ji6 jhx jch cyI jdE) sz)) {p : Program} {l : Launch} {e : Env} {s : State} {m : MethodId} {args : Array Value} {below : List Frame} {meth : Method} {c : Code} {A : Nat → Prop} (dC : Nat → ClassId) (dI : Nat → Nat → Nat) (cyB cyI cyJ cyP : ClassId) (a0 jch : Nat) (jcD ji6 jhx : Value) (jdE : Nat → Int32) (Q : Int32 → Prop) (K22 : Int32 → Int32 → Int32 → Int32 → Int32 → Int32 → Prop) (hK22 : ∀ (H : Heap) (locs : List Loc) (ls : Array Slot) (l1 l2 l3 l4 l5 l6 : Int32), va_P (dC, dI) vwCl (wd00_4 a0 jch jcD ji6 jhx jch cyI jdE) H → va_D A (wd00_4 a0 jch jcD ji6 jhx jch cyI jdE) → va_S A s.heap H locs → lv_has ls 11 [(0, .ref a0), (1, .int l1), (2, .int l2), (3, .int l3), (4, .int l4), (5, .int l5), (6, .int l6)] → K22 l1 l2 l3 l4 l5 l6 → W p l e (headSpec wsX10_ordersWon ({ frames := fr + 1, cells := 0, slots := 0, locals := lo + 30 })).room s m args below meth c H locs 0 0 (MQ below (va_Qi (fun (r : Int32) (_ : Unit) => Q r ) (cB (dC, dI) (kT cyB cyI cyJ cyP) A (fun u : Unit => ((wd00_4 a0 jch jcD ji6 jhx jch cyI jdE) : va_W))) A) args s 0 0 A) (F0 m 22 ls [])) (C0 : cfx p s m args meth c cX10_ordersWon (some .int) wsX10_ordersWon RX10 11 A (dC, dI) (kT cyB cyI cyJ cyP)) : ∀ (H : Heap) (locs : List Loc) (ls : Array Slot) (l1 l2 l3 l4 l5 l6 : Int32), va_P (dC, dI) vwCl (wd00_4 a0 jch jcD ji6 jhx jch cyI jdE) H → va_D A (wd00_4 a0 jch jcD ji6 jhx jch cyI jdE) → va_S A s.heap H locs → lv_has ls 11 [(0, .ref a0), (1, .int l1), (2, .int l2), (3, .int l3), (4, .int l4), (5, .int l5), (6, .int l6)] → wb_X10_ordersWon_g_113 RS jdE Q K22 l1 l2 l3 l4 l5 l6 → W p l e (headSpec wsX10_ordersWon ({ frames := fr + 1, cells := 0, slots := 0, locals := lo + 30 })).room s m args below meth c H locs 0 0 (MQ below (va_Qi (fun (r : Int32) (_ : Unit) => Q r ) (cB (dC, dI) (kT cyB cyI cyJ cyP) A (fun u : Unit => ((wd00_4 a0 jch jcD ji6 jhx jch cyI jdE) : va_W))) A) args s 0 0 A) (F0 m 113 ls []) := by
  obtain ⟨hx, hb, hr, hts, hown, hlocks, hml, hA, hK, hNw⟩ := id C0
  intro H locs ls l1 l2 l3 l4 l5 l6 hP hD hS hl hw
  obtain ⟨x8, ex8⟩ : ∃ y : Int32, y = l6 + 1 := ⟨_, rfl⟩
  have hw := hw x8 ex8
  refine lv_iinc (v := x8) (lv' := [(6, .int x8), (0, .ref a0), (1, .int l1), (2, .int l2), (3, .int l3), (4, .int l4), (5, .int l5)]) hx hb (dt_of tkX10_ordersWon_k94 12 rfl) hl (k := 6) rfl (by rw [ex8]; rfl) (by decide) rfl (fun ls hl => ?_)
  refine lv_goto (tgt := 22) hx hb (dt_of tkX10_ordersWon_k94 13 rfl) (by decide) ?_
  exact hK22 _ _ _ l1 l2 l3 l4 l5 x8 hP hD hS (lv_sub hl [1, 2, 3, 4, 5, 6, 0] rfl) hw
set_option maxHeartbeats 4000000 in
set_option maxRecDepth 100000 in
theorem kb_X10_ordersWon_g_85 (RS : (Nat → Int32) → Int32 → Int32 → Int32 → Int32 → (Int32 → Prop) → Prop) (fr lo : Nat) (hRw : ∀ (l : Launch) (dC : Nat → ClassId) (dI : Nat → Nat → Nat) (cyB cyI cyJ cyP : ClassId) (a0 jch sz : Nat) (jcD ji6 jhx : Value) (jdE : Nat → Int32) (p1 p2 p3 p4 : Int32) {Q : Int32 → Prop} (hw : RS jdE  p1 p2 p3 p4 Q), Met l yX10_ordersWon wsX10_ordersWon ({ frames := fr, cells := 0, slots := 0, locals := lo }) (va_Pc [.ref a0, .int p1, .int p2, .int p3, .int p4] (cPc (dC, dI) (kT cyB cyI cyJ cyP) (wd00_4 a0 jch jcD ji6 jhx jch cyI jdE) sz)) (va_Qi (fun (r : Int32) (_ : Unit) => Q r ) (cB (dC, dI) (kT cyB cyI cyJ cyP) (va_A (wd00_4 a0 jch jcD ji6 jhx jch cyI jdE) sz) (fun u : Unit => ((wd00_4 a0 jch jcD ji6 jhx jch cyI jdE) : va_W))) (va_A (wd00_4 a0 jch jcD ji6 jhx jch cyI jdE) sz)) 0 0 (va_A (wd00_4 a0 jch jcD ji6 jhx jch cyI jdE) sz)) {p : Program} {l : Launch} {e : Env} {s : State} {m : MethodId} {args : Array Value} {below : List Frame} {meth : Method} {c : Code} {A : Nat → Prop} (dC : Nat → ClassId) (dI : Nat → Nat → Nat) (cyB cyI cyJ cyP : ClassId) (a0 jch : Nat) (jcD ji6 jhx : Value) (jdE : Nat → Int32) (Q : Int32 → Prop) (K22 : Int32 → Int32 → Int32 → Int32 → Int32 → Int32 → Prop) (hK22 : ∀ (H : Heap) (locs : List Loc) (ls : Array Slot) (l1 l2 l3 l4 l5 l6 : Int32), va_P (dC, dI) vwCl (wd00_4 a0 jch jcD ji6 jhx jch cyI jdE) H → va_D A (wd00_4 a0 jch jcD ji6 jhx jch cyI jdE) → va_S A s.heap H locs → lv_has ls 11 [(0, .ref a0), (1, .int l1), (2, .int l2), (3, .int l3), (4, .int l4), (5, .int l5), (6, .int l6)] → K22 l1 l2 l3 l4 l5 l6 → W p l e (headSpec wsX10_ordersWon ({ frames := fr + 1, cells := 0, slots := 0, locals := lo + 30 })).room s m args below meth c H locs 0 0 (MQ below (va_Qi (fun (r : Int32) (_ : Unit) => Q r ) (cB (dC, dI) (kT cyB cyI cyJ cyP) A (fun u : Unit => ((wd00_4 a0 jch jcD ji6 jhx jch cyI jdE) : va_W))) A) args s 0 0 A) (F0 m 22 ls [])) (C0 : cfx p s m args meth c cX10_ordersWon (some .int) wsX10_ordersWon RX10 11 A (dC, dI) (kT cyB cyI cyJ cyP)) : ∀ (H : Heap) (locs : List Loc) (ls : Array Slot) (l1 l2 l3 l4 l5 l6 l9 s0 s1 : Int32), va_P (dC, dI) vwCl (wd00_4 a0 jch jcD ji6 jhx jch cyI jdE) H → va_D A (wd00_4 a0 jch jcD ji6 jhx jch cyI jdE) → va_S A s.heap H locs → lv_has ls 11 [(0, .ref a0), (1, .int l1), (2, .int l2), (3, .int l3), (4, .int l4), (5, .int l5), (6, .int l6), (9, .int l9)] → wb_X10_ordersWon_g_85 RS jdE Q K22 l1 l2 l3 l4 l5 l6 l9 s0 s1 → W p l e (headSpec wsX10_ordersWon ({ frames := fr + 1, cells := 0, slots := 0, locals := lo + 30 })).room s m args below meth c H locs 0 0 (MQ below (va_Qi (fun (r : Int32) (_ : Unit) => Q r ) (cB (dC, dI) (kT cyB cyI cyJ cyP) A (fun u : Unit => ((wd00_4 a0 jch jcD ji6 jhx jch cyI jdE) : va_W))) A) args s 0 0 A) (F0 m 85 ls [.int s1, .int s0]) := by
  obtain ⟨hx, hb, hr, hts, hown, hlocks, hml, hA, hK, hNw⟩ := id C0
  intro H locs ls l1 l2 l3 l4 l5 l6 l9 s0 s1 hP hD hS hl hw
  refine lv_iconst (v := 1) hx hb (dt_of tkX10_ordersWon_k62 11 rfl) (by decide) ?_
  refine lv_isub hx hb (dt_of tkX10_ordersWon_k62 12 rfl) ?_
  refine va_mmax hx hb (by rw [hml]; exact hl.1.symm) hown (hts _ uw_X10_ordersWon_r2_m389) (hts _ uw_X10_ordersWon_r2_msmax) (hts _ uw_X10_ordersWon_r2_inim) (hts _ uw_X10_ordersWon_r2_mcmax) ((by first | exact Nat.le_of_ble_eq_true rfl | (simp only [headSpec]; omega) | omega)) ((by first | exact Nat.le_of_ble_eq_true rfl | (simp only [headSpec]; omega) | omega)) ((by first | exact Nat.le_of_ble_eq_true rfl | (simp only [headSpec]; omega) | omega)) ((by first | exact Nat.le_of_ble_eq_true rfl | (simp only [headSpec]; omega) | omega)) (dt_of tkX10_ordersWon_k62 13 rfl) ?_
  refine lv_topi (fun x11 ex11 => ?_)
  have hw := hw x11 ex11
  refine lv_istore (lv' := [(10, .int x11), (0, .ref a0), (1, .int l1), (2, .int l2), (3, .int l3), (4, .int l4), (5, .int l5), (6, .int l6), (9, .int l9)]) hx hb (dt_of tkX10_ordersWon_k62 14 rfl) hl (by decide) rfl (fun ls hl => ?_)
  refine lv_iload hx hb (dt_of tkX10_ordersWon_k62 15 rfl) (lv_at hl 6 rfl) ?_
  refine lv_aload_n hx hb (dt_of tkX10_ordersWon_k94 0 rfl) rfl (lv_at hl 1 rfl) ?_
  refine lv_iload_n hx hb (dt_of tkX10_ordersWon_k94 1 rfl) rfl (lv_at hl 2 rfl) ?_
  refine lv_iload hx hb (dt_of tkX10_ordersWon_k94 2 rfl) (lv_at hl 8 rfl) ?_
  refine lv_iload hx hb (dt_of tkX10_ordersWon_k94 3 rfl) (lv_at hl 0 rfl) ?_
  refine lv_iload hx hb (dt_of tkX10_ordersWon_k94 4 rfl) (lv_at hl 5 rfl) ?_
  refine lv_iconst (v := 1) hx hb (dt_of tkX10_ordersWon_k94 5 rfl) (by decide) ?_
  refine lv_iload hx hb (dt_of tkX10_ordersWon_k94 6 rfl) (lv_at hl 7 rfl) ?_
  refine lv_ishl hx hb (dt_of tkX10_ordersWon_k94 7 rfl) ?_
  refine lv_ixor hx hb (dt_of tkX10_ordersWon_k94 8 rfl) ?_
  obtain ⟨hCc, hPc, hDc, hFc⟩ := va_pick (ws' := (wd00_4 a0 jch jcD ji6 jhx jch cyI jdE)) hP hD hS hA [0, 1] (by decide +kernel) rfl
  refine va_calli (va_runS (As := [.ref a0, .int l1, .int l9, .int x11, .int (l4 ^^^ (1 <<< (l6 &&& 31)))]) (rest := [.int l5]) ⟨hx, hb, hml, hown, hts⟩ (hRw l dC dI cyB cyI cyJ cyP a0 jch H.size (jcD) (ji6) (jhx) jdE  l1 l9 x11 (l4 ^^^ (1 <<< (l6 &&& 31))) hw) (va_cwS 5 hts gX10_ordersWon_X10_ordersWon rfl rfl rfl (by decide +kernel) ⟨(by first | exact Nat.le_of_ble_eq_true rfl | (simp only [headSpec]; omega) | omega), (by first | exact Nat.le_of_ble_eq_true rfl | (simp only [headSpec]; omega) | omega)⟩) ⟨cPc_blind, cPc_pre hPc hK hDc hNw⟩ rfl rfl hl.1 rfl (lv_room (Nat.le_of_ble_eq_true rfl)) (dt_of tkX10_ordersWon_k94 9 rfl) ⟨(by first | exact Nat.le_of_ble_eq_true rfl | (simp only [headSpec]; omega) | omega), (by first | exact Nat.le_of_ble_eq_true rfl | (simp only [headSpec]; omega) | omega)⟩) hS (fun q _ h => hFc q h) hFc (fun r12 u t H1 locs ht hvm hw hB hz1 hk1 hS => ?_)
  obtain ⟨hP1, hK1, hD1⟩ := hB
  rw [ht] at hP1
  obtain ⟨hP, hD⟩ := va_joinI (wr := []) (w1 := (wd00_4 a0 jch jcD ji6 jhx jch cyI jdE)) (wn := (wd00_4 a0 jch jcD ji6 jhx jch cyI jdE)) hP hD [0, 1] [] hCc rfl (by decide +kernel) (by decide +kernel) rfl hk1 hFc hP1 hD1
  generalize H1 = H at hP hS ⊢
  refine lv_iadd hx hb (dt_of tkX10_ordersWon_k94 10 rfl) ?_
  refine lv_topi (fun x13 ex13 => ?_)
  have hw := hw x13 ex13
  refine lv_istore (lv' := [(5, .int x13), (10, .int x11), (0, .ref a0), (1, .int l1), (2, .int l2), (3, .int l3), (4, .int l4), (6, .int l6), (9, .int l9)]) hx hb (dt_of tkX10_ordersWon_k94 11 rfl) hl (by decide) rfl (fun ls hl => ?_)
  exact kb_X10_ordersWon_g_113 RS fr lo hRw dC dI cyB cyI cyJ cyP a0 jch jcD ji6 jhx jdE Q K22 hK22 C0 _ _ _ l1 l2 l3 l4 x13 l6 hP hD hS (lv_sub hl [2, 3, 4, 5, 6, 0, 7] rfl) hw
set_option maxHeartbeats 4000000 in
set_option maxRecDepth 100000 in
theorem kb_X10_ordersWon_g_71 (RS : (Nat → Int32) → Int32 → Int32 → Int32 → Int32 → (Int32 → Prop) → Prop) (fr lo : Nat) (hRw : ∀ (l : Launch) (dC : Nat → ClassId) (dI : Nat → Nat → Nat) (cyB cyI cyJ cyP : ClassId) (a0 jch sz : Nat) (jcD ji6 jhx : Value) (jdE : Nat → Int32) (p1 p2 p3 p4 : Int32) {Q : Int32 → Prop} (hw : RS jdE  p1 p2 p3 p4 Q), Met l yX10_ordersWon wsX10_ordersWon ({ frames := fr, cells := 0, slots := 0, locals := lo }) (va_Pc [.ref a0, .int p1, .int p2, .int p3, .int p4] (cPc (dC, dI) (kT cyB cyI cyJ cyP) (wd00_4 a0 jch jcD ji6 jhx jch cyI jdE) sz)) (va_Qi (fun (r : Int32) (_ : Unit) => Q r ) (cB (dC, dI) (kT cyB cyI cyJ cyP) (va_A (wd00_4 a0 jch jcD ji6 jhx jch cyI jdE) sz) (fun u : Unit => ((wd00_4 a0 jch jcD ji6 jhx jch cyI jdE) : va_W))) (va_A (wd00_4 a0 jch jcD ji6 jhx jch cyI jdE) sz)) 0 0 (va_A (wd00_4 a0 jch jcD ji6 jhx jch cyI jdE) sz)) {p : Program} {l : Launch} {e : Env} {s : State} {m : MethodId} {args : Array Value} {below : List Frame} {meth : Method} {c : Code} {A : Nat → Prop} (dC : Nat → ClassId) (dI : Nat → Nat → Nat) (cyB cyI cyJ cyP : ClassId) (a0 jch : Nat) (jcD ji6 jhx : Value) (jdE : Nat → Int32) (Q : Int32 → Prop) (K22 : Int32 → Int32 → Int32 → Int32 → Int32 → Int32 → Prop) (hK22 : ∀ (H : Heap) (locs : List Loc) (ls : Array Slot) (l1 l2 l3 l4 l5 l6 : Int32), va_P (dC, dI) vwCl (wd00_4 a0 jch jcD ji6 jhx jch cyI jdE) H → va_D A (wd00_4 a0 jch jcD ji6 jhx jch cyI jdE) → va_S A s.heap H locs → lv_has ls 11 [(0, .ref a0), (1, .int l1), (2, .int l2), (3, .int l3), (4, .int l4), (5, .int l5), (6, .int l6)] → K22 l1 l2 l3 l4 l5 l6 → W p l e (headSpec wsX10_ordersWon ({ frames := fr + 1, cells := 0, slots := 0, locals := lo + 30 })).room s m args below meth c H locs 0 0 (MQ below (va_Qi (fun (r : Int32) (_ : Unit) => Q r ) (cB (dC, dI) (kT cyB cyI cyJ cyP) A (fun u : Unit => ((wd00_4 a0 jch jcD ji6 jhx jch cyI jdE) : va_W))) A) args s 0 0 A) (F0 m 22 ls [])) (C0 : cfx p s m args meth c cX10_ordersWon (some .int) wsX10_ordersWon RX10 11 A (dC, dI) (kT cyB cyI cyJ cyP)) : ∀ (H : Heap) (locs : List Loc) (ls : Array Slot) (l1 l2 l3 l4 l5 l6 l7 l8 s0 : Int32), va_P (dC, dI) vwCl (wd00_4 a0 jch jcD ji6 jhx jch cyI jdE) H → va_D A (wd00_4 a0 jch jcD ji6 jhx jch cyI jdE) → va_S A s.heap H locs → lv_has ls 11 [(0, .ref a0), (1, .int l1), (2, .int l2), (3, .int l3), (4, .int l4), (5, .int l5), (6, .int l6), (7, .int l7), (8, .int l8)] → wb_X10_ordersWon_g_71 RS jdE Q K22 l1 l2 l3 l4 l5 l6 l7 l8 s0 → W p l e (headSpec wsX10_ordersWon ({ frames := fr + 1, cells := 0, slots := 0, locals := lo + 30 })).room s m args below meth c H locs 0 0 (MQ below (va_Qi (fun (r : Int32) (_ : Unit) => Q r ) (cB (dC, dI) (kT cyB cyI cyJ cyP) A (fun u : Unit => ((wd00_4 a0 jch jcD ji6 jhx jch cyI jdE) : va_W))) A) args s 0 0 A) (F0 m 71 ls [.int s0]) := by
  obtain ⟨hx, hb, hr, hts, hown, hlocks, hml, hA, hK, hNw⟩ := id C0
  intro H locs ls l1 l2 l3 l4 l5 l6 l7 l8 s0 hP hD hS hl hw
  refine lv_istore (lv' := [(9, .int s0), (0, .ref a0), (1, .int l1), (2, .int l2), (3, .int l3), (4, .int l4), (5, .int l5), (6, .int l6), (7, .int l7), (8, .int l8)]) hx hb (dt_of tkX10_ordersWon_k62 4 rfl) hl (by decide) rfl (fun ls hl => ?_)
  refine lv_iconst (v := 0) hx hb (dt_of tkX10_ordersWon_k62 5 rfl) (by decide) ?_
  refine lv_iload hx hb (dt_of tkX10_ordersWon_k62 6 rfl) (lv_at hl 9 rfl) ?_
  refine lv_if_eq (tgt := 83) hx hb (dt_of tkX10_ordersWon_k62 7 rfl) (by decide) (fun c10 => ?_) (fun c10 => ?_)
  · have hw := hw.1 c10
    refine lv_iload hx hb (dt_of tkX10_ordersWon_k62 10 rfl) (lv_at hl 8 rfl) ?_
    exact kb_X10_ordersWon_g_85 RS fr lo hRw dC dI cyB cyI cyJ cyP a0 jch jcD ji6 jhx jdE Q K22 hK22 C0 _ _ _ l1 l2 l3 l4 l5 l6 s0 0 l7 hP hD hS (lv_sub hl [1, 2, 3, 4, 5, 6, 7, 0] rfl) hw
  · have hw := hw.2 c10
    refine lv_iload_n hx hb (dt_of tkX10_ordersWon_k62 8 rfl) rfl (lv_at hl 4 rfl) ?_
    refine lv_goto (tgt := 85) hx hb (dt_of tkX10_ordersWon_k62 9 rfl) (by decide) ?_
    exact kb_X10_ordersWon_g_85 RS fr lo hRw dC dI cyB cyI cyJ cyP a0 jch jcD ji6 jhx jdE Q K22 hK22 C0 _ _ _ l1 l2 l3 l4 l5 l6 s0 0 l3 hP hD hS (lv_sub hl [1, 2, 3, 4, 5, 6, 7, 0] rfl) hw
set_option maxHeartbeats 4000000 in
set_option maxRecDepth 100000 in
theorem kb_X10_ordersWon_g_58 (RS : (Nat → Int32) → Int32 → Int32 → Int32 → Int32 → (Int32 → Prop) → Prop) (fr lo : Nat) (hRw : ∀ (l : Launch) (dC : Nat → ClassId) (dI : Nat → Nat → Nat) (cyB cyI cyJ cyP : ClassId) (a0 jch sz : Nat) (jcD ji6 jhx : Value) (jdE : Nat → Int32) (p1 p2 p3 p4 : Int32) {Q : Int32 → Prop} (hw : RS jdE  p1 p2 p3 p4 Q), Met l yX10_ordersWon wsX10_ordersWon ({ frames := fr, cells := 0, slots := 0, locals := lo }) (va_Pc [.ref a0, .int p1, .int p2, .int p3, .int p4] (cPc (dC, dI) (kT cyB cyI cyJ cyP) (wd00_4 a0 jch jcD ji6 jhx jch cyI jdE) sz)) (va_Qi (fun (r : Int32) (_ : Unit) => Q r ) (cB (dC, dI) (kT cyB cyI cyJ cyP) (va_A (wd00_4 a0 jch jcD ji6 jhx jch cyI jdE) sz) (fun u : Unit => ((wd00_4 a0 jch jcD ji6 jhx jch cyI jdE) : va_W))) (va_A (wd00_4 a0 jch jcD ji6 jhx jch cyI jdE) sz)) 0 0 (va_A (wd00_4 a0 jch jcD ji6 jhx jch cyI jdE) sz)) {p : Program} {l : Launch} {e : Env} {s : State} {m : MethodId} {args : Array Value} {below : List Frame} {meth : Method} {c : Code} {A : Nat → Prop} (dC : Nat → ClassId) (dI : Nat → Nat → Nat) (cyB cyI cyJ cyP : ClassId) (a0 jch : Nat) (jcD ji6 jhx : Value) (jdE : Nat → Int32) (Q : Int32 → Prop) (K22 : Int32 → Int32 → Int32 → Int32 → Int32 → Int32 → Prop) (hK22 : ∀ (H : Heap) (locs : List Loc) (ls : Array Slot) (l1 l2 l3 l4 l5 l6 : Int32), va_P (dC, dI) vwCl (wd00_4 a0 jch jcD ji6 jhx jch cyI jdE) H → va_D A (wd00_4 a0 jch jcD ji6 jhx jch cyI jdE) → va_S A s.heap H locs → lv_has ls 11 [(0, .ref a0), (1, .int l1), (2, .int l2), (3, .int l3), (4, .int l4), (5, .int l5), (6, .int l6)] → K22 l1 l2 l3 l4 l5 l6 → W p l e (headSpec wsX10_ordersWon ({ frames := fr + 1, cells := 0, slots := 0, locals := lo + 30 })).room s m args below meth c H locs 0 0 (MQ below (va_Qi (fun (r : Int32) (_ : Unit) => Q r ) (cB (dC, dI) (kT cyB cyI cyJ cyP) A (fun u : Unit => ((wd00_4 a0 jch jcD ji6 jhx jch cyI jdE) : va_W))) A) args s 0 0 A) (F0 m 22 ls [])) (C0 : cfx p s m args meth c cX10_ordersWon (some .int) wsX10_ordersWon RX10 11 A (dC, dI) (kT cyB cyI cyJ cyP)) : ∀ (H : Heap) (locs : List Loc) (ls : Array Slot) (l1 l2 l3 l4 l5 l6 l7 s0 : Int32), va_P (dC, dI) vwCl (wd00_4 a0 jch jcD ji6 jhx jch cyI jdE) H → va_D A (wd00_4 a0 jch jcD ji6 jhx jch cyI jdE) → va_S A s.heap H locs → lv_has ls 11 [(0, .ref a0), (1, .int l1), (2, .int l2), (3, .int l3), (4, .int l4), (5, .int l5), (6, .int l6), (7, .int l7)] → wb_X10_ordersWon_g_58 RS jdE Q K22 l1 l2 l3 l4 l5 l6 l7 s0 → W p l e (headSpec wsX10_ordersWon ({ frames := fr + 1, cells := 0, slots := 0, locals := lo + 30 })).room s m args below meth c H locs 0 0 (MQ below (va_Qi (fun (r : Int32) (_ : Unit) => Q r ) (cB (dC, dI) (kT cyB cyI cyJ cyP) A (fun u : Unit => ((wd00_4 a0 jch jcD ji6 jhx jch cyI jdE) : va_W))) A) args s 0 0 A) (F0 m 58 ls [.int s0]) := by
  obtain ⟨hx, hb, hr, hts, hown, hlocks, hml, hA, hK, hNw⟩ := id C0
  intro H locs ls l1 l2 l3 l4 l5 l6 l7 s0 hP hD hS hl hw
  refine lv_istore (lv' := [(8, .int s0), (0, .ref a0), (1, .int l1), (2, .int l2), (3, .int l3), (4, .int l4), (5, .int l5), (6, .int l6), (7, .int l7)]) hx hb (dt_of tkX10_ordersWon_k29 14 rfl) hl (by decide) rfl (fun ls hl => ?_)
  refine lv_iload hx hb (dt_of tkX10_ordersWon_k29 15 rfl) (lv_at hl 0 rfl) ?_
  refine lv_if_eq (tgt := 69) hx hb (dt_of tkX10_ordersWon_k62 0 rfl) (by decide) (fun c9 => ?_) (fun c9 => ?_)
  · have hw := hw.1 c9
    refine lv_iload hx hb (dt_of tkX10_ordersWon_k62 3 rfl) (lv_at hl 7 rfl) ?_
    exact kb_X10_ordersWon_g_71 RS fr lo hRw dC dI cyB cyI cyJ cyP a0 jch jcD ji6 jhx jdE Q K22 hK22 C0 _ _ _ l1 l2 l3 l4 l5 l6 l7 s0 l6 hP hD hS (lv_sub hl [1, 2, 3, 4, 5, 6, 7, 8, 0] rfl) hw
  · have hw := hw.2 c9
    refine lv_iload_n hx hb (dt_of tkX10_ordersWon_k62 1 rfl) rfl (lv_at hl 3 rfl) ?_
    refine lv_goto (tgt := 71) hx hb (dt_of tkX10_ordersWon_k62 2 rfl) (by decide) ?_
    exact kb_X10_ordersWon_g_71 RS fr lo hRw dC dI cyB cyI cyJ cyP a0 jch jcD ji6 jhx jdE Q K22 hK22 C0 _ _ _ l1 l2 l3 l4 l5 l6 l7 s0 l2 hP hD hS (lv_sub hl [1, 2, 3, 4, 5, 6, 7, 8, 0] rfl) hw
set_option maxHeartbeats 4000000 in
set_option maxRecDepth 100000 in
theorem kl_X10_ordersWon_g_22 (RS : (Nat → Int32) → Int32 → Int32 → Int32 → Int32 → (Int32 → Prop) → Prop) (fr lo : Nat) (hRw : ∀ (l : Launch) (dC : Nat → ClassId) (dI : Nat → Nat → Nat) (cyB cyI cyJ cyP : ClassId) (a0 jch sz : Nat) (jcD ji6 jhx : Value) (jdE : Nat → Int32) (p1 p2 p3 p4 : Int32) {Q : Int32 → Prop} (hw : RS jdE  p1 p2 p3 p4 Q), Met l yX10_ordersWon wsX10_ordersWon ({ frames := fr, cells := 0, slots := 0, locals := lo }) (va_Pc [.ref a0, .int p1, .int p2, .int p3, .int p4] (cPc (dC, dI) (kT cyB cyI cyJ cyP) (wd00_4 a0 jch jcD ji6 jhx jch cyI jdE) sz)) (va_Qi (fun (r : Int32) (_ : Unit) => Q r ) (cB (dC, dI) (kT cyB cyI cyJ cyP) (va_A (wd00_4 a0 jch jcD ji6 jhx jch cyI jdE) sz) (fun u : Unit => ((wd00_4 a0 jch jcD ji6 jhx jch cyI jdE) : va_W))) (va_A (wd00_4 a0 jch jcD ji6 jhx jch cyI jdE) sz)) 0 0 (va_A (wd00_4 a0 jch jcD ji6 jhx jch cyI jdE) sz)) {p : Program} {l : Launch} {e : Env} {s : State} {m : MethodId} {args : Array Value} {below : List Frame} {meth : Method} {c : Code} {A : Nat → Prop} (dC : Nat → ClassId) (dI : Nat → Nat → Nat) (cyB cyI cyJ cyP : ClassId) (a0 jch : Nat) (jcD ji6 jhx : Value) (jdE : Nat → Int32) (Q : Int32 → Prop)  (C0 : cfx p s m args meth c cX10_ordersWon (some .int) wsX10_ordersWon RX10 11 A (dC, dI) (kT cyB cyI cyJ cyP)) : ∀ (n : Nat) (H : Heap) (locs : List Loc) (ls : Array Slot) (l1 l2 l3 l4 l5 l6 : Int32), va_P (dC, dI) vwCl (wd00_4 a0 jch jcD ji6 jhx jch cyI jdE) H → va_D A (wd00_4 a0 jch jcD ji6 jhx jch cyI jdE) → va_S A s.heap H locs → lv_has ls 11 [(0, .ref a0), (1, .int l1), (2, .int l2), (3, .int l3), (4, .int l4), (5, .int l5), (6, .int l6)] → wl_X10_ordersWon_g_22 RS jdE Q  n l1 l2 l3 l4 l5 l6 → W p l e (headSpec wsX10_ordersWon ({ frames := fr + 1, cells := 0, slots := 0, locals := lo + 30 })).room s m args below meth c H locs 0 0 (MQ below (va_Qi (fun (r : Int32) (_ : Unit) => Q r ) (cB (dC, dI) (kT cyB cyI cyJ cyP) A (fun u : Unit => ((wd00_4 a0 jch jcD ji6 jhx jch cyI jdE) : va_W))) A) args s 0 0 A) (F0 m 22 ls []) := by
  obtain ⟨hx, hb, hr, hts, hown, hlocks, hml, hA, hK, hNw⟩ := id C0
  intro n
  induction n with
  | zero => intro H locs ls l1 l2 l3 l4 l5 l6 hP hD hS hl hw; exact False.elim hw
  | succ n ih =>
    intro H locs ls l1 l2 l3 l4 l5 l6 hP hD hS hl hw
    refine lv_iload hx hb (dt_of tkX10_ordersWon_k0 13 rfl) (lv_at hl 6 rfl) ?_
    refine lv_bipush (v := 6) hx hb (dt_of tkX10_ordersWon_k0 14 rfl) (by decide) ?_
    refine lv_icmp_ge (tgt := 119) hx hb (dt_of tkX10_ordersWon_k0 15 rfl) (by decide) (fun c3 => ?_) (fun c3 => ?_)
    · have hw := hw.1 c3
      refine lv_iload hx hb (dt_of tkX10_ordersWon_k94 14 rfl) (lv_at hl 5 rfl) ?_
      exact ((W.iret (v := l5) hx hb hr (fun t ht hW => ⟨⟨l5, (), rfl, hw, by rw [ht]; exact hP, va_K.moved hW.alike hK, hD⟩, hS.F ht⟩) hS.2.2 (dt_of tkX10_ordersWon_k94 15 rfl)))
    · have hw := hw.2 c3
      refine lv_iload hx hb (dt_of tkX10_ordersWon_k29 0 rfl) (lv_at hl 4 rfl) ?_
      refine lv_iload hx hb (dt_of tkX10_ordersWon_k29 1 rfl) (lv_at hl 6 rfl) ?_
      obtain ⟨hCc, hPc, hDc, hFc⟩ := va_pick (ws' := []) hP hD hS hA [] (by decide +kernel) rfl
      refine va_calli (va_runS (As := [.int l4, .int l6]) (rest := []) ⟨hx, hb, hml, hown, hts⟩ (ck_X10_holds l dC dI cyB cyI cyJ cyP  H.size    l4 l6 hw) (va_cwS 2 hts gX10_ordersWon_X10_holds rfl rfl rfl (by decide +kernel) ⟨(by first | exact Nat.le_of_ble_eq_true rfl | (simp only [headSpec]; omega) | omega), (by first | exact Nat.le_of_ble_eq_true rfl | (simp only [headSpec]; omega) | omega)⟩) ⟨cPc_blind, cPc_pre hPc hK hDc hNw⟩ rfl rfl hl.1 rfl (lv_room (Nat.le_of_ble_eq_true rfl)) (dt_of tkX10_ordersWon_k29 2 rfl) ⟨(by first | exact Nat.le_of_ble_eq_true rfl | (simp only [headSpec]; omega) | omega), (by first | exact Nat.le_of_ble_eq_true rfl | (simp only [headSpec]; omega) | omega)⟩) hS (fun q _ h => hFc q h) hFc (fun r4 u t H1 locs ht hvm hw hB hz1 hk1 hS => ?_)
      obtain ⟨hP1, hK1, hD1⟩ := hB
      rw [ht] at hP1
      obtain ⟨hP, hD⟩ := va_joinI (wr := (wd00_4 a0 jch jcD ji6 jhx jch cyI jdE)) (w1 := []) (wn := (wd00_4 a0 jch jcD ji6 jhx jch cyI jdE)) hP hD [] [0, 1] hCc rfl (by decide +kernel) (by decide +kernel) rfl hk1 hFc hP1 hD1
      generalize H1 = H at hP hS ⊢
      refine lv_if_eq (tgt := 113) hx hb (dt_of tkX10_ordersWon_k29 3 rfl) (by decide) (fun c5 => ?_) (fun c5 => ?_)
      · have hw := hw.1 c5
        exact kb_X10_ordersWon_g_113 RS fr lo hRw dC dI cyB cyI cyJ cyP a0 jch jcD ji6 jhx jdE Q (wl_X10_ordersWon_g_22 RS jdE Q  n) ih C0 _ _ _ l1 l2 l3 l4 l5 l6 hP hD hS (lv_sub hl [0, 1, 2, 3, 4, 5, 6] rfl) hw
      · have hw := hw.2 c5
        refine lv_aload_n hx hb (dt_of tkX10_ordersWon_k29 4 rfl) rfl (lv_at hl 0 rfl) ?_
        refine lv_iload hx hb (dt_of tkX10_ordersWon_k29 5 rfl) (lv_at hl 6 rfl) ?_
        obtain ⟨hCc, hPc, hDc, hFc⟩ := va_pick (ws' := (wd00_4 a0 jch jcD ji6 jhx jch cyI jdE)) hP hD hS hA [0, 1] (by decide +kernel) rfl
        refine va_calli (va_runV (As := [.int l6]) (rest := []) ⟨hx, hb, hml, hown, hts⟩ (ck_X1_strong l dC dI cyB cyI cyJ cyP a0 jch H.size (jcD) (ji6) (jhx) jdE  l6 hw) (cwV 1 hts gX10_ordersWon_X1_strong rfl rfl rfl (by decide +kernel) ⟨(by first | exact Nat.le_of_ble_eq_true rfl | (simp only [headSpec]; omega) | omega), (by first | exact Nat.le_of_ble_eq_true rfl | (simp only [headSpec]; omega) | omega)⟩) ⟨cPc_blind, va_recv (q := (RX1, TX1, 4)) hK hPc (ci := 1) (q0 := 0) rfl rfl, cPc_pre hPc hK hDc hNw⟩ rfl rfl hl.1 rfl (lv_room (Nat.le_of_ble_eq_true rfl)) (dt_of tkX10_ordersWon_k29 6 rfl) ⟨(by first | exact Nat.le_of_ble_eq_true rfl | (simp only [headSpec]; omega) | omega), (by first | exact Nat.le_of_ble_eq_true rfl | (simp only [headSpec]; omega) | omega)⟩) hS (fun q _ h => hFc q h) hFc (fun r6 u t H1 locs ht hvm hw hB hz1 hk1 hS => ?_)
        obtain ⟨hP1, hK1, hD1⟩ := hB
        rw [ht] at hP1
        obtain ⟨hP, hD⟩ := va_joinI (wr := []) (w1 := (wd00_4 a0 jch jcD ji6 jhx jch cyI jdE)) (wn := (wd00_4 a0 jch jcD ji6 jhx jch cyI jdE)) hP hD [0, 1] [] hCc rfl (by decide +kernel) (by decide +kernel) rfl hk1 hFc hP1 hD1
        generalize H1 = H at hP hS ⊢
        refine lv_istore (lv' := [(7, .int r6), (0, .ref a0), (1, .int l1), (2, .int l2), (3, .int l3), (4, .int l4), (5, .int l5), (6, .int l6)]) hx hb (dt_of tkX10_ordersWon_k29 7 rfl) hl (by decide) rfl (fun ls hl => ?_)
        refine lv_iload_n hx hb (dt_of tkX10_ordersWon_k29 8 rfl) rfl (lv_at hl 4 rfl) ?_
        refine lv_iload hx hb (dt_of tkX10_ordersWon_k29 9 rfl) (lv_at hl 0 rfl) ?_
        refine lv_icmp_lt (tgt := 57) hx hb (dt_of tkX10_ordersWon_k29 10 rfl) (by decide) (fun c7 => ?_) (fun c7 => ?_)
        · have hw := hw.1 c7
          refine lv_iconst (v := 0) hx hb (dt_of tkX10_ordersWon_k29 13 rfl) (by decide) ?_
          exact kb_X10_ordersWon_g_58 RS fr lo hRw dC dI cyB cyI cyJ cyP a0 jch jcD ji6 jhx jdE Q (wl_X10_ordersWon_g_22 RS jdE Q  n) ih C0 _ _ _ l1 l2 l3 l4 l5 l6 r6 0 hP hD hS (lv_sub hl [1, 2, 3, 4, 5, 6, 7, 0] rfl) hw
        · have hw := hw.2 c7
          refine lv_iconst (v := 1) hx hb (dt_of tkX10_ordersWon_k29 11 rfl) (by decide) ?_
          refine lv_goto (tgt := 58) hx hb (dt_of tkX10_ordersWon_k29 12 rfl) (by decide) ?_
          exact kb_X10_ordersWon_g_58 RS fr lo hRw dC dI cyB cyI cyJ cyP a0 jch jcD ji6 jhx jdE Q (wl_X10_ordersWon_g_22 RS jdE Q  n) ih C0 _ _ _ l1 l2 l3 l4 l5 l6 r6 1 hP hD hS (lv_sub hl [1, 2, 3, 4, 5, 6, 7, 0] rfl) hw
set_option maxHeartbeats 4000000 in
set_option maxRecDepth 100000 in
theorem ck_X10_ordersWon_g (RS : (Nat → Int32) → Int32 → Int32 → Int32 → Int32 → (Int32 → Prop) → Prop) (fr lo : Nat) (hRw : ∀ (l : Launch) (dC : Nat → ClassId) (dI : Nat → Nat → Nat) (cyB cyI cyJ cyP : ClassId) (a0 jch sz : Nat) (jcD ji6 jhx : Value) (jdE : Nat → Int32) (p1 p2 p3 p4 : Int32) {Q : Int32 → Prop} (hw : RS jdE  p1 p2 p3 p4 Q), Met l yX10_ordersWon wsX10_ordersWon ({ frames := fr, cells := 0, slots := 0, locals := lo }) (va_Pc [.ref a0, .int p1, .int p2, .int p3, .int p4] (cPc (dC, dI) (kT cyB cyI cyJ cyP) (wd00_4 a0 jch jcD ji6 jhx jch cyI jdE) sz)) (va_Qi (fun (r : Int32) (_ : Unit) => Q r ) (cB (dC, dI) (kT cyB cyI cyJ cyP) (va_A (wd00_4 a0 jch jcD ji6 jhx jch cyI jdE) sz) (fun u : Unit => ((wd00_4 a0 jch jcD ji6 jhx jch cyI jdE) : va_W))) (va_A (wd00_4 a0 jch jcD ji6 jhx jch cyI jdE) sz)) 0 0 (va_A (wd00_4 a0 jch jcD ji6 jhx jch cyI jdE) sz)) (l : Launch) (dC : Nat → ClassId) (dI : Nat → Nat → Nat) (cyB cyI cyJ cyP : ClassId) (a0 jch sz : Nat) (jcD ji6 jhx : Value) (jdE : Nat → Int32)  (p1 p2 p3 p4 : Int32) {Q : Int32 → Prop} (hw : wq_X10_ordersWon_g RS jdE  p1 p2 p3 p4 Q) : Met l yX10_ordersWon wsX10_ordersWon ({ frames := fr + 1, cells := 0, slots := 0, locals := lo + 30 }) (va_Pc [.ref a0, .int p1, .int p2, .int p3, .int p4] (cPc (dC, dI) (kT cyB cyI cyJ cyP) (wd00_4 a0 jch jcD ji6 jhx jch cyI jdE) sz)) (va_Qi (fun (r : Int32) (_ : Unit) => Q r ) (cB (dC, dI) (kT cyB cyI cyJ cyP) (va_A (wd00_4 a0 jch jcD ji6 jhx jch cyI jdE) sz) (fun u : Unit => ((wd00_4 a0 jch jcD ji6 jhx jch cyI jdE) : va_W))) (va_A (wd00_4 a0 jch jcD ji6 jhx jch cyI jdE) sz)) 0 0 (va_A (wd00_4 a0 jch jcD ji6 jhx jch cyI jdE) sz) := by
  refine Met.ofW (cc := cX10_ordersWon) (maxL := 11) (ret := (some .int)) (by decide) rfl ?_
  intro p e s m args below meth c s₁ B hml hv
  obtain ⟨rfl, hsz, hP, hK, hD0, hNw⟩ := hv
  have hx := B.exec
  have hb := B.bytes
  have hr := B.returns
  have hts := atoms_spec (ws := wsX10_ordersWon) B.pre
  have hown : s.vm.findClass RX10 = some m.cls := findClass_of_methodNamed B.named
  have hlocks := B.notSynchronized
  subst hsz
  have hD := hD0.self (sz := s.heap.size)
  generalize hAe : va_A (wd00_4 a0 jch jcD ji6 jhx jch cyI jdE) s.heap.size = A at hD ⊢
  have hA : ∀ q : Nat, s.heap.size ≤ q → A q := fun q h => by rw [← hAe]; exact Or.inr h
  have hS : va_S A s.heap s.heap [] := va_S.rf
  have hP : va_P (dC, dI) vwCl (wd00_4 a0 jch jcD ji6 jhx jch cyI jdE) s.heap := hP
  have hl := lv_entry ([.ref a0, .int p1, .int p2, .int p3, .int p4]) (n := 11) ((by first | exact Nat.le_of_ble_eq_true rfl | (simp only [headSpec]; omega) | omega))
  rw [lg_entry_eq]
  generalize (lg_sl ([.ref a0, .int p1, .int p2, .int p3, .int p4]) ++ List.replicate (11 - (lg_sl ([.ref a0, .int p1, .int p2, .int p3, .int p4])).length) Slot.unset).toArray = ls at hl ⊢
  have hl : lv_has ls 11 [(0, .ref a0), (1, .int p1), (2, .int p2), (3, .int p3), (4, .int p4)] := hl
  have C0 : cfx p s m _ meth c cX10_ordersWon (some .int) wsX10_ordersWon RX10 11 A (dC, dI) (kT cyB cyI cyJ cyP) := ⟨hx, hb, hr, hts, hown, hlocks, hml, hA, hK, hNw⟩
  clear hAe
  obtain ⟨H, hH⟩ : ∃ H, H = s.heap := ⟨_, rfl⟩
  rw [← hH] at hP ⊢
  have hS : va_S A s.heap H [] := by rw [hH]; exact va_S.rf
  have hS := hS
  refine lv_iload hx hb (dt_of tkX10_ordersWon_k0 0 rfl) (lv_at hl 4 rfl) ?_
  refine lv_if_ne (tgt := 16) hx hb (dt_of tkX10_ordersWon_k0 1 rfl) (by decide) (fun c1 => ?_) (fun c1 => ?_)
  · have hw := hw.1 c1
    refine lv_iconst (v := 0) hx hb (dt_of tkX10_ordersWon_k0 9 rfl) (by decide) ?_
    refine lv_istore (lv' := [(5, .int 0), (0, .ref a0), (1, .int p1), (2, .int p2), (3, .int p3), (4, .int p4)]) hx hb (dt_of tkX10_ordersWon_k0 10 rfl) hl (by decide) rfl (fun ls hl => ?_)
    refine lv_iconst (v := 0) hx hb (dt_of tkX10_ordersWon_k0 11 rfl) (by decide) ?_
    refine lv_istore (lv' := [(6, .int 0), (5, .int 0), (0, .ref a0), (1, .int p1), (2, .int p2), (3, .int p3), (4, .int p4)]) hx hb (dt_of tkX10_ordersWon_k0 12 rfl) hl (by decide) rfl (fun ls hl => ?_)
    obtain ⟨n9, hw⟩ := hw
    exact kl_X10_ordersWon_g_22 RS fr lo hRw dC dI cyB cyI cyJ cyP a0 jch jcD ji6 jhx jdE Q  C0 n9 _ _ _ p1 p2 p3 p4 0 0 hP hD hS (lv_sub hl [2, 3, 4, 5, 6, 1, 0] rfl) hw
  · have hw := hw.2 c1
    refine lv_iload_n hx hb (dt_of tkX10_ordersWon_k0 2 rfl) rfl (lv_at hl 2 rfl) ?_
    refine lv_iload_n hx hb (dt_of tkX10_ordersWon_k0 3 rfl) rfl (lv_at hl 1 rfl) ?_
    refine lv_icmp_ne (tgt := 14) hx hb (dt_of tkX10_ordersWon_k0 4 rfl) (by decide) (fun c2 => ?_) (fun c2 => ?_)
    · have hw := hw.1 c2
      refine lv_iconst (v := 0) hx hb (dt_of tkX10_ordersWon_k0 7 rfl) (by decide) ?_
      exact ((W.iret (v := 0) hx hb hr (fun t ht hW => ⟨⟨0, (), rfl, hw, by rw [ht]; exact hP, va_K.moved hW.alike hK, hD⟩, hS.F ht⟩) hS.2.2 (dt_of tkX10_ordersWon_k0 8 rfl)))
    · have hw := hw.2 c2
      refine lv_iconst (v := 1) hx hb (dt_of tkX10_ordersWon_k0 5 rfl) (by decide) ?_
      refine lv_goto (tgt := 15) hx hb (dt_of tkX10_ordersWon_k0 6 rfl) (by decide) ?_
      exact ((W.iret (v := 1) hx hb hr (fun t ht hW => ⟨⟨1, (), rfl, hw, by rw [ht]; exact hP, va_K.moved hW.alike hK, hD⟩, hS.F ht⟩) hS.2.2 (dt_of tkX10_ordersWon_k0 8 rfl)))
theorem ck_X10_ordersWon_r1 (l : Launch) (dC : Nat → ClassId) (dI : Nat → Nat → Nat) (cyB cyI cyJ cyP : ClassId) (a0 jch sz : Nat) (jcD ji6 jhx : Value) (jdE : Nat → Int32) (p1 p2 p3 p4 : Int32) {Q : Int32 → Prop} (hw : wq_X10_ordersWon_r1 jdE  p1 p2 p3 p4 Q) : Met l yX10_ordersWon wsX10_ordersWon ({ frames := 2, cells := 0, slots := 0, locals := 62 }) (va_Pc [.ref a0, .int p1, .int p2, .int p3, .int p4] (cPc (dC, dI) (kT cyB cyI cyJ cyP) (wd00_4 a0 jch jcD ji6 jhx jch cyI jdE) sz)) (va_Qi (fun (r : Int32) (_ : Unit) => Q r ) (cB (dC, dI) (kT cyB cyI cyJ cyP) (va_A (wd00_4 a0 jch jcD ji6 jhx jch cyI jdE) sz) (fun u : Unit => ((wd00_4 a0 jch jcD ji6 jhx jch cyI jdE) : va_W))) (va_A (wd00_4 a0 jch jcD ji6 jhx jch cyI jdE) sz)) 0 0 (va_A (wd00_4 a0 jch jcD ji6 jhx jch cyI jdE) sz) :=
  ck_X10_ordersWon_g wq_X10_ordersWon_r0 1 32 ck_X10_ordersWon_r0 l dC dI cyB cyI cyJ cyP a0 jch sz jcD ji6 jhx jdE p1 p2 p3 p4 hw
theorem ck_X10_ordersWon_r2 (l : Launch) (dC : Nat → ClassId) (dI : Nat → Nat → Nat) (cyB cyI cyJ cyP : ClassId) (a0 jch sz : Nat) (jcD ji6 jhx : Value) (jdE : Nat → Int32) (p1 p2 p3 p4 : Int32) {Q : Int32 → Prop} (hw : wq_X10_ordersWon_r2 jdE  p1 p2 p3 p4 Q) : Met l yX10_ordersWon wsX10_ordersWon ({ frames := 3, cells := 0, slots := 0, locals := 92 }) (va_Pc [.ref a0, .int p1, .int p2, .int p3, .int p4] (cPc (dC, dI) (kT cyB cyI cyJ cyP) (wd00_4 a0 jch jcD ji6 jhx jch cyI jdE) sz)) (va_Qi (fun (r : Int32) (_ : Unit) => Q r ) (cB (dC, dI) (kT cyB cyI cyJ cyP) (va_A (wd00_4 a0 jch jcD ji6 jhx jch cyI jdE) sz) (fun u : Unit => ((wd00_4 a0 jch jcD ji6 jhx jch cyI jdE) : va_W))) (va_A (wd00_4 a0 jch jcD ji6 jhx jch cyI jdE) sz)) 0 0 (va_A (wd00_4 a0 jch jcD ji6 jhx jch cyI jdE) sz) :=
  ck_X10_ordersWon_g wq_X10_ordersWon_r1 2 62 ck_X10_ordersWon_r1 l dC dI cyB cyI cyJ cyP a0 jch sz jcD ji6 jhx jdE p1 p2 p3 p4 hw
theorem ck_X10_ordersWon_r3 (l : Launch) (dC : Nat → ClassId) (dI : Nat → Nat → Nat) (cyB cyI cyJ cyP : ClassId) (a0 jch sz : Nat) (jcD ji6 jhx : Value) (jdE : Nat → Int32) (p1 p2 p3 p4 : Int32) {Q : Int32 → Prop} (hw : wq_X10_ordersWon_r3 jdE  p1 p2 p3 p4 Q) : Met l yX10_ordersWon wsX10_ordersWon ({ frames := 4, cells := 0, slots := 0, locals := 122 }) (va_Pc [.ref a0, .int p1, .int p2, .int p3, .int p4] (cPc (dC, dI) (kT cyB cyI cyJ cyP) (wd00_4 a0 jch jcD ji6 jhx jch cyI jdE) sz)) (va_Qi (fun (r : Int32) (_ : Unit) => Q r ) (cB (dC, dI) (kT cyB cyI cyJ cyP) (va_A (wd00_4 a0 jch jcD ji6 jhx jch cyI jdE) sz) (fun u : Unit => ((wd00_4 a0 jch jcD ji6 jhx jch cyI jdE) : va_W))) (va_A (wd00_4 a0 jch jcD ji6 jhx jch cyI jdE) sz)) 0 0 (va_A (wd00_4 a0 jch jcD ji6 jhx jch cyI jdE) sz) :=
  ck_X10_ordersWon_g wq_X10_ordersWon_r2 3 92 ck_X10_ordersWon_r2 l dC dI cyB cyI cyJ cyP a0 jch sz jcD ji6 jhx jdE p1 p2 p3 p4 hw
theorem ck_X10_ordersWon_r4 (l : Launch) (dC : Nat → ClassId) (dI : Nat → Nat → Nat) (cyB cyI cyJ cyP : ClassId) (a0 jch sz : Nat) (jcD ji6 jhx : Value) (jdE : Nat → Int32) (p1 p2 p3 p4 : Int32) {Q : Int32 → Prop} (hw : wq_X10_ordersWon_r4 jdE  p1 p2 p3 p4 Q) : Met l yX10_ordersWon wsX10_ordersWon ({ frames := 5, cells := 0, slots := 0, locals := 152 }) (va_Pc [.ref a0, .int p1, .int p2, .int p3, .int p4] (cPc (dC, dI) (kT cyB cyI cyJ cyP) (wd00_4 a0 jch jcD ji6 jhx jch cyI jdE) sz)) (va_Qi (fun (r : Int32) (_ : Unit) => Q r ) (cB (dC, dI) (kT cyB cyI cyJ cyP) (va_A (wd00_4 a0 jch jcD ji6 jhx jch cyI jdE) sz) (fun u : Unit => ((wd00_4 a0 jch jcD ji6 jhx jch cyI jdE) : va_W))) (va_A (wd00_4 a0 jch jcD ji6 jhx jch cyI jdE) sz)) 0 0 (va_A (wd00_4 a0 jch jcD ji6 jhx jch cyI jdE) sz) :=
  ck_X10_ordersWon_g wq_X10_ordersWon_r3 4 122 ck_X10_ordersWon_r3 l dC dI cyB cyI cyJ cyP a0 jch sz jcD ji6 jhx jdE p1 p2 p3 p4 hw
theorem ck_X10_ordersWon_r5 (l : Launch) (dC : Nat → ClassId) (dI : Nat → Nat → Nat) (cyB cyI cyJ cyP : ClassId) (a0 jch sz : Nat) (jcD ji6 jhx : Value) (jdE : Nat → Int32) (p1 p2 p3 p4 : Int32) {Q : Int32 → Prop} (hw : wq_X10_ordersWon_r5 jdE  p1 p2 p3 p4 Q) : Met l yX10_ordersWon wsX10_ordersWon ({ frames := 6, cells := 0, slots := 0, locals := 182 }) (va_Pc [.ref a0, .int p1, .int p2, .int p3, .int p4] (cPc (dC, dI) (kT cyB cyI cyJ cyP) (wd00_4 a0 jch jcD ji6 jhx jch cyI jdE) sz)) (va_Qi (fun (r : Int32) (_ : Unit) => Q r ) (cB (dC, dI) (kT cyB cyI cyJ cyP) (va_A (wd00_4 a0 jch jcD ji6 jhx jch cyI jdE) sz) (fun u : Unit => ((wd00_4 a0 jch jcD ji6 jhx jch cyI jdE) : va_W))) (va_A (wd00_4 a0 jch jcD ji6 jhx jch cyI jdE) sz)) 0 0 (va_A (wd00_4 a0 jch jcD ji6 jhx jch cyI jdE) sz) :=
  ck_X10_ordersWon_g wq_X10_ordersWon_r4 5 152 ck_X10_ordersWon_r4 l dC dI cyB cyI cyJ cyP a0 jch sz jcD ji6 jhx jdE p1 p2 p3 p4 hw
