/** Promises 18 and 19: weights that aren't sure, and which THING to weigh. */
public final class ScaleTest {
    public static void main(String[] args) {
        sure();
        weigh();
        Check.end();
    }

    private static void sure(PoundsOver x, int c, long... want) {
        for (int what = 0; what < 5; what++) {
            Check.due("sure(" + c + ", " + what + ")", x.sure(c, what), want[what]);
        }
    }

    private static void sure() {
        PoundsOver x = Check.told("person 9 9 9;case 0 20 20 1;case 0 4 20 1;case 0 18 9 9;case 0 5 9 9;"
            + "thing 10 2 1 1 0;thing 9 3 1 1 0;thing 6 1 1 1 1;thing 9 9 1 1 2;thing 6 0 1 1 3;");
        sure(x, 0, 14, 24, 2, 5, 7);
        sure(x, 1, 5, 7, 0, 0, 1);
        sure(x, 2, 0, 18, 1, 1, 1);
        sure(x, 3, 6, 6, 0, 0, 1);
        x.shift(3, 20);
        sure(x, 2, 0, 0, 1, 1, 1);
        PoundsOver edge = Check.told("person 9 9 9;case 0 5 20 1;case 0 7 20 1;case 0 4 20 1;"
            + "thing 6 1 1 1 0;thing 6 1 1 1 1;thing 6 1 1 1 2;");
        sure(edge, 0, 5, 7, 2, 1, 3);
        sure(edge, 1, 5, 7, 1, 1, 1);
        sure(edge, 2, 5, 7, 0, 0, 1);
        PoundsOver big = Check.told("person 9 9 9;case 0 108 20 1;" + "thing 9 9 0 0 0;".repeat(12));
        long all = 1;
        for (int i = 0; i < 12; i++) {
            all *= 19;
        }
        // Half of the rest, and those that weigh just 108: an odd number in all.
        long upper = big.sure(0, 3);
        long lower = big.sure(0, 4);
        Check.due("the lower part divides all", all % lower, 0);
        long just = upper * (all / lower) * 2 - all;
        Check.due("some weigh just 108", just > 0 && just < all, true);
        PoundsOver less = Check.told("person 9 9 9;case 0 107 20 1;" + "thing 9 9 0 0 0;".repeat(12));
        Check.due("those under 108", less.sure(0, 3) * (all / less.sure(0, 4)), (all - just) / 2);
        Check.noSuch("sure(0, 5)", () -> x.sure(0, 5));
        Check.noSuch("sure(0, -1)", () -> x.sure(0, -1));
        Check.noSuch("sure(4, 0)", () -> x.sure(4, 0));
        Check.noSuch("sure(-1, 0)", () -> x.sure(-1, 0));
    }

    private static void weigh(PoundsOver x, int c, int... want) {
        for (int what = 0; what < 3; what++) {
            Check.due("weigh(" + c + ", " + what + ")", x.weigh(c, what), want[what]);
        }
    }

    private static void weigh() {
        PoundsOver x = Check.told("person 9 9 9;case 0 20 20 1;case 0 4 20 1;case 0 18 9 9;case 0 5 9 9;case 0 5 9 9;"
            + "thing 10 2 1 1 0;thing 9 3 1 1 0;thing 6 1 1 1 1;thing 9 9 1 1 2;thing 5 1 1 1 3;");
        weigh(x, 0, 1, 3, 7);
        weigh(x, 1, -1, 0, 1);
        weigh(x, 2, -1, 0, 1);
        weigh(x, 3, 4, 1, 1);
        weigh(x, 4, -1, 0, 1);
        PoundsOver like = Check.told("person 9 9 9;case 0 10 20 1;thing 3 0 0 0 0;thing 4 1 1 1 0;thing 3 1 1 1 0;");
        weigh(like, 0, 1, 1, 3);
        PoundsOver never = Check.told("person 9 9 9;case 0 16 20 1;" + "thing 4 1 0 0 0;".repeat(4));
        weigh(never, 0, 0, 0, 1);
        PoundsOver fraction = Check.told("person 9 9 9;case 0 10 20 1;thing 5 4 1 1 0;thing 5 1 0 0 0;");
        // The first alone tells unless it is 5 or 6 (with the other at 4 to 6): 7 of 9.
        weigh(fraction, 0, 0, 7, 9);
        PoundsOver lowest = Check.told("person 9 9 9;case 0 10 20 1;thing 5 4 1 1 0;thing 5 1 0 0 0;thing 1 1 0 0 0;");
        weigh(lowest, 0, 0, 5, 9);
        PoundsOver third = Check.told("person 9 9 9;case 0 10 20 1;thing 5 4 1 1 0;thing 5 1 0 0 0;thing 1 1 0 0 0;thing 1 1 0 0 0;");
        weigh(third, 0, 0, 1, 3);
        Check.noSuch("weigh(0, 3)", () -> x.weigh(0, 3));
        Check.noSuch("weigh(0, -1)", () -> x.weigh(0, -1));
        Check.noSuch("weigh(5, 0)", () -> x.weigh(5, 0));
        Check.noSuch("weigh(-1, 0)", () -> x.weigh(-1, 0));
    }
}
