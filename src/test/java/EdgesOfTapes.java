/** Promises 15 and 16: how many bytes a tape has, from none to 100. */
final class EdgesOfTapes {
    private EdgesOfTapes() { }

    private static ScrapHouse tapeOf(int bytes) {
        ScrapHouse x = new ScrapHouse();
        for (int k = 0; k < bytes / 4; k++) {
            x.feed(0x20202020);
        }
        for (int k = 0; k < bytes % 4; k++) {
            x.feed(0x20);
        }
        return x;
    }

    /** "bytes of 0 are left out": all four of them. */
    static void p15_nothing(Check c) {
        ScrapHouse x = new ScrapHouse();
        c.due("feed(0)", x.feed(0), 0);
        c.due("bytes", x.count(5), 0);
        Check.feed(x, "o=1");
        c.due("feed(0) behind three", x.feed(0), 3);
        c.due("no fault", x.fault(), -1);
    }

    /** "bytes of 0 are left out", wherever they stand: what is left is o=1 in each. */
    static void p15_bytesOf0(Check c) {
        int[] feeds = {0x6F3D3100, 0x6F3D0031, 0x6F003D31, 0x006F3D31};
        for (int bytes : feeds) {
            ScrapHouse x = new ScrapHouse();
            c.due("feed", x.feed(bytes), 3);
            c.due("fault", x.fault(), -1);
        }
        ScrapHouse y = new ScrapHouse();
        c.due("o", y.feed(0x6F000000), 1);
        c.due("=", y.feed(0x003D0000), 2);
        c.due("1", y.feed(0x00003100), 3);
        c.due("2", y.feed(0x00000032), 4);
        c.due("fault", y.fault(), -1);
    }

    /** "the highest first", in an int below 0 too. */
    static void p15_theHighestFirst(Check c) {
        ScrapHouse x = new ScrapHouse();
        c.due("o=1&", x.feed(0x6F3D3126), 4);
        c.due("fault", x.fault(), 4);
        ScrapHouse y = new ScrapHouse();
        c.due("byte 255, then o=1", y.feed(0xFF6F3D31), 4);
        c.due("fault at it", y.fault(), 0);
        ScrapHouse z = new ScrapHouse();
        c.due("o=1, then byte 128", z.feed(0x6F3D3180), 4);
        c.due("fault there", z.fault(), 3);
    }

    /** The least int and the greatest one: bytes of 128, 127 and 255. */
    static void p15_intsAtTheirEnds(Check c) {
        ScrapHouse x = new ScrapHouse();
        c.due("the least", x.feed(Integer.MIN_VALUE), 1);
        c.due("the greatest", x.feed(Integer.MAX_VALUE), 5);
        c.due("-1", x.feed(-1), 9);
        c.due("1", x.feed(1), 10);
        c.due("fault", x.fault(), 0);
    }

    /** "NONE: more than 100": 100 are not more. */
    static void p15_moreThan100(Check c) {
        ScrapHouse x = tapeOf(96);
        c.due("four more", x.feed(0x20202020), 100);
        EdgesTest.refused(c, x, "one more", () -> x.feed(0x20), -1);
        EdgesTest.refused(c, x, "four more again", () -> x.feed(0x20202020), -1);
    }

    /** "NONE: more than 100": any byte that is not 0, at each of the four places, is one more. */
    static void p15_anyByteIsOneMore(Check c) {
        for (int shift = 0; shift <= 24; shift += 8) {
            ScrapHouse x = tapeOf(100);
            for (int one = 1; one <= 255; one++) {
                c.due("byte " + one + " at bit " + shift, x.feed(one << shift), -1);
            }
            c.due("bytes", x.count(5), 100);
        }
    }

    /** Each of the four places has room or not on its own: two bytes in 98, and three. */
    static void p15_anyTwoOfTheFour(Check c) {
        for (int left = 0; left < 16; left++) {
            int bytes = 0;
            for (int k = 0; k < 4; k++) {
                bytes |= (left >> k & 1) << 8 * k;
            }
            int many = Integer.bitCount(left);
            c.due("bytes " + Integer.toHexString(bytes) + " behind 98", tapeOf(98).feed(bytes), many <= 2 ? 98 + many : -1);
        }
    }

    /** "NONE: more than 100": none of the four come, though some would find room. */
    static void p15_noneOfThemComes(Check c) {
        for (int there = 97; there <= 99; there++) {
            ScrapHouse x = tapeOf(there);
            EdgesTest.refused(c, x, "four more behind " + there, () -> x.feed(0x78787878), -1);
            c.due("none of them is there", x.fault(), there);
            c.due("bytes", x.count(5), there);
        }
    }

    /** Bytes of 0 take no room: what is left of the four counts. */
    static void p15_roomForThoseThatAreLeft(Check c) {
        for (int there = 97; there <= 99; there++) {
            ScrapHouse x = tapeOf(there);
            int room = 100 - there;
            int fits = 0x20202020 << 8 * (4 - room);
            EdgesTest.refused(c, x, "one too many", () -> x.feed(fits >>> 8 | 0x20000000), -1);
            c.due("what fits", x.feed(fits), 100);
            c.due("none more", x.feed(0), 100);
        }
    }

    /** There is room again when the TAPE was ended, and when it is a RULE. */
    static void p15_roomAgain(Check c) {
        ScrapHouse x = tapeOf(100);
        x.end(99);
        c.due("one more", x.feed(0x20), 100);
        x.end(97);
        c.due("o=1", x.feed(0x006F3D31), 100);
        c.due("a rule of 100 bytes", x.rule(), true);
        c.due("from the beginning", x.feed(0x20202020), 4);
    }

    /** "its first n bytes .. False: n": below 0. */
    static void p16_nBelow0(Check c) {
        ScrapHouse x = tapeOf(3);
        EdgesTest.refused(c, x, "end(-1)", () -> x.end(-1));
        EdgesTest.refused(c, x, "end(-3)", () -> x.end(-3));
        EdgesTest.refused(c, x, "end(least)", () -> x.end(Integer.MIN_VALUE));
    }

    /** "its first n bytes .. False: n": more than it has. */
    static void p16_nAboveItsLength(Check c) {
        ScrapHouse x = tapeOf(3);
        EdgesTest.refused(c, x, "end(4)", () -> x.end(4));
        EdgesTest.refused(c, x, "end(100)", () -> x.end(100));
        EdgesTest.refused(c, x, "end(greatest)", () -> x.end(Integer.MAX_VALUE));
        ScrapHouse y = tapeOf(100);
        EdgesTest.refused(c, y, "end(101)", () -> y.end(101));
        c.due("end(100)", y.end(100), true);
        c.due("bytes", y.count(5), 100);
    }

    /** All of its bytes: it is as it was. */
    static void p16_nItsLength(Check c) {
        ScrapHouse x = new ScrapHouse();
        Check.feed(x, "o=1");
        c.due("end(3)", x.end(3), true);
        c.due("bytes", x.count(5), 3);
        c.due("fault", x.fault(), -1);
    }

    /** None of its bytes: it is empty. */
    static void p16_nothingLeft(Check c) {
        ScrapHouse x = tapeOf(3);
        c.due("end(0)", x.end(0), true);
        c.due("bytes", x.count(5), 0);
        c.due("fault", x.fault(), 0);
    }

    /** An empty TAPE has its first 0 bytes, and no first one. */
    static void p16_ofAnEmptyTape(Check c) {
        ScrapHouse x = new ScrapHouse();
        c.due("end(0)", x.end(0), true);
        c.due("end(1)", x.end(1), false);
        c.due("end(-1)", x.end(-1), false);
        Check.setRule(x, "o=1");
        c.due("end(0) behind a rule", x.end(0), true);
        c.due("end(1) behind a rule", x.end(1), false);
    }

    /** Bytes that were cut off do not come back. */
    static void p16_cutOffForGood(Check c) {
        ScrapHouse x = new ScrapHouse();
        Check.feed(x, "o=12");
        c.due("end(2)", x.end(2), true);
        c.due("end(4)", x.end(4), false);
        c.due("fault", x.fault(), 2);
        c.due("one byte more", x.feed('x'), 3);
        c.due("fault at it", x.fault(), 2);
        x.end(2);
        c.due("a digit more", x.feed('7'), 3);
        c.due("no fault", x.fault(), -1);
    }
}
