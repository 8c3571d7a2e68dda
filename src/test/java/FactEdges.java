/** The boundaries of what is told of everything: promises 1 and 5 to 8, and what the terms say of a CASE's WEIGHT and FEE. */
final class FactEdges {
    private static final int[] NO_INDEX = {-1, -2, Integer.MIN_VALUE, Integer.MAX_VALUE, 1 << 16};

    private FactEdges() {
    }

    interface Asked {
        long of(PoundsOver x, int index);
    }

    static void all() {
        newObject();
        counts();
        people();
        cases();
        things();
        everywhere();
        weights();
        fees();
    }

    /** Below 0 and from n on there is none; the first and the last of n are answered. */
    static void indices(String call, PoundsOver x, int n, Asked asked) {
        for (int i : NO_INDEX) {
            Check.noSuch(call + " of " + i, () -> asked.of(x, i));
        }
        Check.noSuch(call + " of " + n, () -> asked.of(x, n));
        Check.noSuch(call + " of " + (n + 1), () -> asked.of(x, n + 1));
        for (int i = 0; i < n; i++) {
            answers(call + " of " + i, x, i, asked);
        }
    }

    private static void answers(String call, PoundsOver x, int i, Asked asked) {
        boolean answered = true;
        try {
            asked.of(x, i);
        } catch (RuntimeException e) {
            answered = false;
        }
        Check.due(call + " answers", answered, true);
    }

    private static void newObject() {
        Edge.of(1, "Nobody, nothing.", () -> {
            PoundsOver x = new PoundsOver();
            for (int what = 0; what <= 12; what++) {
                Check.due("count(" + what + ")", x.count(what), 0);
            }
            indices("person", x, 0, (y, i) -> y.person(i, 0));
            indices("box", x, 0, (y, i) -> y.box(i, 0));
            indices("thing", x, 0, (y, i) -> y.thing(i, 0));
            long[] none = {x.fault(), x.undo(), x.forget(), x.share(), x.fits(1), x.best(0), x.best(1), x.best(2)};
            for (long answer : none) {
                Check.due("none", answer, -1);
            }
            long[] nothing = {x.bill(), x.lawful(), x.opened(), x.safe(), x.fits(0), x.counter(1, 200, 0), x.counter(1, 200, 1)};
            for (long answer : nothing) {
                Check.due("nothing", answer, 0);
            }
            Check.due("fits(2)", x.fits(2), 1);
            Check.due("restore()", x.restore(), false);
            Check.illegal("hall(1)", () -> x.hall(1));
            Check.due("hall(0)", x.hall(0), 0);
            x.image();
            Check.due("restore() of nothing", x.restore(), true);
        });
        Edge.of(1, "`NONE = -1`: There is none.", () -> {
            Check.due("NONE", PoundsOver.NONE, -1);
            Check.due("undo()", new PoundsOver().undo(), PoundsOver.NONE);
        });
        Edge.of(1, "An object is used for at most 512 calls after it has been made", () -> {
            PoundsOver x = new PoundsOver();
            String text = "person 1 1 1;case 0 9 9 9;case 0 9 9 9;thing 1 0 1 1 0;      ";
            for (int i = 0; i < 60; i += 20) {
                byte[] b = text.getBytes(java.nio.charset.StandardCharsets.ISO_8859_1);
                x.feed(Check.four(b, i), Check.four(b, i + 4), Check.four(b, i + 8), Check.four(b, i + 12), Check.four(b, i + 16));
            }
            Check.due("call 4", x.hall(text.length() / 20 * 20), 0);
            for (int call = 5; call <= 508; call++) {
                Check.due("call " + call, x.shift(0, call % 2), 1 - call % 2);
            }
            Check.due("call 509", x.undo(), 39);
            Check.due("call 510", x.thing(0, 5), 1);
            Check.due("call 511", x.count(6), 3);
            Check.due("call 512", x.count(11), 0);
        });
    }

    private static void counts() {
        String hall = "person 50 2 3;person 50 2 3;case 0 9 9 4;case 0 9 9 4;case 0 9 9 4;thing 1 0 1 5 0;"
            + "post 3 1;post 4 1;post 5 1;post 6 1;post 7 1;looks 6 40;";
        Edge.of(5, "0 PEOPLE, 1 CASES, 2 THINGS, 3 POSTS, 4 TENTHS, 5 FINE, 6 what was opened (bits), 7 ACTS that are kept, 8 SEEN,"
            + " 9 bytes of the tape, 10 to 12 STATUS 0 to 2.", () -> {
            PoundsOver x = Check.told(hall);
            int[] want = {2, 3, 1, 5, 6, 40, 0, 0, 0, 0, 0, 0, 0};
            rows("ahead", x, want);
            x.shift(0, 2);
            x.shift(0, 10);
            x.shift(0, 11);
            x.undo();
            x.see(0, 0);
            x.see(2, 1);
            x.see(1, 1);
            x.forget();
            x.see(0, 1000);
            x.see(0, -1);
            x.see(0, -1);
            x.shift(0, 9);
            x.shift(0, 9);
            Check.feed(x, "!");
            x.hall(20);
            Check.feed(x, "!".repeat(21));
            int[] then = {2, 3, 1, 5, 6, 40, 5, 2, 2, 40, 1, 2, 3};
            rows("then", x, then);
        });
        Edge.of(5, "NoSuchElementException: another what.", () -> indices("count", Check.told(hall), 13, PoundsOver::count));
        Edge.of(5, "STATUS: how many calls were refused: 0 TEXTS with a FAULT, 1 ACTS, 2 what is SEEN"
            + " (not counted where an exception tells it).", () -> {
            PoundsOver x = Check.told(hall);
            Check.illegal("hall(1)", () -> x.hall(1));
            Check.noSuch("shift(1, 0)", () -> x.shift(1, 0));
            Check.noSuch("shift(-1, 0)", () -> x.shift(-1, 0));
            Check.noSuch("see(3, 0)", () -> x.see(3, 0));
            Check.noSuch("see(-1, 1000)", () -> x.see(-1, 1000));
            Check.noSuch("may(1, 0)", () -> x.may(1, 0) ? 1 : 0);
            Check.due("may(0, 0)", x.may(0, 0), false);
            Check.due("undo()", x.undo(), -1);
            Check.due("forget()", x.forget(), -1);
            Check.due("restore()", x.restore(), false);
            status(x, 0, 0, 0);
            Check.due("shift(0, 0)", x.shift(0, 0), -1);
            status(x, 0, 1, 0);
            Check.due("see(0, -1)", x.see(0, -1), -1);
            status(x, 0, 1, 1);
            Check.due("hall", Check.hall(x, "!"), 1);
            status(x, 1, 1, 1);
            Check.due("hall", Check.hall(x, hall), 0);
            status(x, 1, 1, 1);
            Check.due("feed", feedFull(x), -1);
            status(x, 1, 1, 1);
            for (int i = 0; i < 100; i++) {
                x.shift(0, 0);
                x.see(0, -1);
                Check.hall(x, "!");
            }
            status(x, 101, 101, 101);
        });
    }

    private static int feedFull(PoundsOver x) {
        int full = 0;
        for (int i = 0; i < 36; i++) {
            full = x.feed(0, 0, 0, 0, 0);
        }
        Check.due("hall(0)", x.hall(0), 0);
        Check.due("hall", Check.hall(x, "person 1 1 1;case 0 1 1 1;thing 1 0 1 1 0;"), 0);
        return full;
    }

    private static void rows(String when, PoundsOver x, int... want) {
        for (int what = 0; what < want.length; what++) {
            Check.due("count(" + what + ") " + when, x.count(what), want[what]);
        }
    }

    private static void status(PoundsOver x, int... want) {
        for (int i = 0; i < 3; i++) {
            Check.due("STATUS " + i, x.count(10 + i), want[i]);
        }
    }

    // ---- promise 6

    private static void people() {
        String hall = "person 60 3 9;person 40 4 12;case 0 20 30 7;case 1 20 30 7;coat 9 0 3 80 0 5;coat 9 0 3 80 0 4;"
            + "shirt 2 0 1 30 0;shirt 2 0 2 30 0;thing 2 0 0 1 0;";
        Edge.of(6, "3 that of what is worn, 4 SIZES in POCKETS, 5 whether one has a shirt (1).", () -> {
            PoundsOver x = Check.told(hall);
            person(x, 0, 0, 0, 1);
            person(x, 1, 0, 0, 0);
            x.shift(4, 10);
            person(x, 0, 0, 0, 1);
            x.shift(0, 10);
            person(x, 0, 5, 0, 1);
            x.shift(1, 10);
            person(x, 0, 9, 0, 1);
            x.shift(2, 10);
            person(x, 0, 9, 1, 1);
            x.shift(3, 10);
            person(x, 0, 9, 3, 1);
            person(x, 1, 0, 0, 0);
            x.shift(3, 11);
            person(x, 0, 9, 1, 1);
            person(x, 1, 0, 2, 1);
            x.shift(2, 20);
            person(x, 0, 9, 0, 0);
            x.shift(1, 11);
            person(x, 0, 5, 0, 0);
            person(x, 1, 4, 2, 1);
        });
        Edge.of(6, "A PERSON has a shirt, if one is in a CASE of his, or on him.", () -> {
            PoundsOver x = Check.told(hall + "case 0 20 30 7;");
            int[] places = {0, 2, 10, 1, 11};
            for (int place : places) {
                x.shift(2, place);
                x.shift(3, place);
                Check.due("they are at " + place, x.thing(2, 5) == place && x.thing(3, 5) == place, true);
                boolean first = place != 1 && place != 11;
                Check.due("person(0, 5) with shirts at " + place, x.person(0, 5), first ? 1 : 0);
                Check.due("person(1, 5) with shirts at " + place, x.person(1, 5), first ? 0 : 1);
            }
            for (int gone = 20; gone <= 21; gone++) {
                PoundsOver y = Check.told("person 1 9 9;case 0 20 30 7;shirt 1 0 1 1 0;post 9 9;");
                y.shift(0, gone);
                Check.due("person(0, 5) with a shirt at " + gone, y.person(0, 5), 0);
            }
            PoundsOver others = Check.told("person 1 9 9;case 0 20 30 7;thing 1 0 1 1 0;coat 1 0 1 1 0 1;sharp 1 0 1 1 0;"
                + "glass 1 0 1 1 0;food 1 0 1 1 0;");
            Check.due("with no shirt", others.person(0, 5), 0);
        });
        Edge.of(6, "NoSuchElementException: no such PERSON (as everywhere), what.", () -> {
            PoundsOver x = Check.told(hall);
            for (int what = 0; what < 6; what++) {
                int w = what;
                indices("person(?, " + what + ")", x, 2, (y, i) -> y.person(i, w));
            }
            indices("person(0, ?)", x, 6, (y, i) -> y.person(0, i));
            indices("person(1, ?)", x, 6, (y, i) -> y.person(1, i));
            indices("person(?, 6)", x, 0, (y, i) -> y.person(i, 6));
            indices("person of four", Check.told("person 1 1 1;".repeat(4)), 4, (y, i) -> y.person(i, 0));
        });
    }

    private static void person(PoundsOver x, int person, int heat, int sizes, int shirt) {
        Check.due("person(" + person + ", 3)", x.person(person, 3), heat);
        Check.due("person(" + person + ", 4)", x.person(person, 4), sizes);
        Check.due("person(" + person + ", 5)", x.person(person, 5), shirt);
    }

    // ---- promises 7 and 8

    private static void cases() {
        String hall = "person 60 9 9;person 60 9 9;case 1 20 30 7 board;case 0 21 31 8;thing 20 0 4 80 0;thing 1 0 3 80 0;thing 0 0 2 80 1;";
        Edge.of(7, "0 whose, 1 LIMIT, 2 HOLDS, 3 COST, 4 BOARD (1), 5 WEIGHT, 6 SIZES in it, 7 OVER, 8 FEE, 9 which THINGS are in it (bits).", () -> {
            PoundsOver x = Check.told(hall);
            box(x, 0, 1, 20, 30, 7, 1, 21, 7, 1, 10, 3);
            box(x, 1, 0, 21, 31, 8, 0, 0, 2, 0, 0, 4);
            x.shift(2, 0);
            box(x, 0, 1, 20, 30, 7, 1, 21, 9, 1, 10, 7);
            box(x, 1, 0, 21, 31, 8, 0, 0, 0, 0, 0, 0);
            x.shift(1, 20);
            box(x, 0, 1, 20, 30, 7, 1, 20, 6, 0, 0, 5);
            x.shift(0, 1);
            box(x, 0, 1, 20, 30, 7, 1, 0, 2, 0, 0, 4);
            box(x, 1, 0, 21, 31, 8, 0, 20, 4, 0, 0, 1);
            PoundsOver twelve = Check.told("person 1 9 9;case 0 9 60 9;" + "thing 60 0 5 1 0;".repeat(12));
            box(twelve, 0, 0, 9, 60, 9, 0, 720, 60, 711, 7110, 4095);
        });
        Edge.of(7, "NoSuchElementException: no such CASE (as everywhere), what.", () -> {
            PoundsOver x = Check.told(hall);
            for (int what = 0; what < 10; what++) {
                int w = what;
                indices("box(?, " + what + ")", x, 2, (y, i) -> y.box(i, w));
            }
            indices("box(0, ?)", x, 10, (y, i) -> y.box(0, i));
            indices("box(1, ?)", x, 10, (y, i) -> y.box(1, i));
            indices("box(?, 10)", x, 0, (y, i) -> y.box(i, 10));
            indices("box of five", Check.told("person 1 1 1;" + "case 0 1 1 1;".repeat(5)), 5, (y, i) -> y.box(i, 0));
        });
    }

    private static void box(PoundsOver x, int c, int... want) {
        for (int what = 0; what < 10; what++) {
            Check.due("box(" + c + ", " + what + ")", x.box(c, what), want[what]);
        }
    }

    private static void things() {
        String hall = "person 60 9 9;case 0 20 30 7;case 0 21 31 8;coat 9 3 4 80 1 6;food 10 2 3 79 0;thing 11 1 2 78 1;shirt 0 0 5 77 0;"
            + "post 9 40;post 10 30;";
        Edge.of(8, "0 KIND, 1 WEIGHT, 2 UNSURE, 3 SIZE, 4 VALUE, 5 its PLACE, 6 HEAT (0 of others), 7 PRICE to post it (NONE: it can't be).", () -> {
            PoundsOver x = Check.told(hall);
            thing(x, 0, 1, 9, 3, 4, 80, 1, 6, 40);
            thing(x, 1, 4, 10, 2, 3, 79, 0, 0, 30);
            thing(x, 2, 0, 11, 1, 2, 78, 1, 0, -1);
            thing(x, 3, 5, 0, 0, 5, 77, 0, 0, 40);
            x.shift(0, 10);
            x.shift(1, 22);
            x.shift(2, 20);
            x.shift(3, 21);
            thing(x, 0, 1, 9, 3, 4, 80, 10, 6, 40);
            thing(x, 1, 4, 10, 2, 3, 79, 22, 0, 30);
            thing(x, 2, 0, 11, 1, 2, 78, 20, 0, -1);
            thing(x, 3, 5, 0, 0, 5, 77, 21, 0, 40);
            Check.due("PRICE without POSTS", Check.told("person 1 1 1;case 0 1 1 1;thing 0 0 0 0 0;").thing(0, 7), -1);
            Check.due("PRICE of 0", Check.told("person 1 1 1;case 0 1 1 1;thing 0 0 0 0 0;post 1 0;").thing(0, 7), 0);
        });
        Edge.of(8, "NoSuchElementException: no such THING (as everywhere), what.", () -> {
            PoundsOver x = Check.told(hall);
            for (int what = 0; what < 8; what++) {
                int w = what;
                indices("thing(?, " + what + ")", x, 4, (y, i) -> y.thing(i, w));
            }
            indices("thing(0, ?)", x, 8, (y, i) -> y.thing(0, i));
            indices("thing(3, ?)", x, 8, (y, i) -> y.thing(3, i));
            indices("thing(?, 8)", x, 0, (y, i) -> y.thing(i, 8));
            PoundsOver twelve = Check.told("person 1 1 1;case 0 9 9 9;" + "thing 1 0 0 0 0;".repeat(12));
            indices("thing of twelve", twelve, 12, (y, i) -> y.thing(i, 0));
        });
    }

    private static void thing(PoundsOver x, int t, int... want) {
        for (int what = 0; what < 8; what++) {
            Check.due("thing(" + t + ", " + what + ")", x.thing(t, what), want[what]);
        }
    }

    private static void everywhere() {
        String hall = "person 60 9 9;person 60 9 9;case 0 20 30 7;case 0 21 31 8;case 1 9 9 9;coat 9 3 4 80 1 6;food 1 0 1 1 0;"
            + "food 1 0 1 1 0;food 1 0 1 1 0;";
        Edge.of(6, "no such PERSON (as everywhere)", () -> {
            indices("wear", Check.told(hall), 2, (x, i) -> x.wear(i, 0, true));
            indices("person", Check.told(hall), 2, (x, i) -> x.person(i, 3));
        });
        Edge.of(7, "no such CASE (as everywhere)", () -> {
            PoundsOver x = Check.told(hall);
            x.share();
            indices("two(?, not that one)", x, 3, (y, i) -> y.two(i, i == 0 ? 1 : 0));
            indices("two(not that one, ?)", x, 3, (y, i) -> y.two(i == 0 ? 1 : 0, i));
            for (int i : new int[] {-1, 3, 4, Integer.MIN_VALUE, Integer.MAX_VALUE}) {
                Check.noSuch("two(" + i + ", " + i + ")", () -> x.two(i, i));
            }
            indices("cheap", x, 3, PoundsOver::cheap);
            indices("sure", x, 3, (y, i) -> y.sure(i, 3));
            indices("weigh", x, 3, (y, i) -> y.weigh(i, 0));
            indices("lost", x, 3, PoundsOver::lost);
            indices("carrier", x, 3, PoundsOver::carrier);
            indices("look", x, 3, (y, i) -> y.look(i, 0));
            indices("see", x, 3, (y, i) -> y.see(i, 5));
        });
        Edge.of(8, "no such THING (as everywhere)", () -> {
            PoundsOver x = Check.told(hall);
            indices("may", x, 4, (y, i) -> y.may(i, 20) ? 1 : 0);
            indices("shift", x, 4, (y, i) -> y.shift(i, 20));
            PoundsOver all = Check.told("person 1 1 1;case 0 99 9 9;" + "thing 1 0 0 0 0;".repeat(12));
            all.cheap(0);
            indices("fate", all, 12, PoundsOver::fate);
            Check.noSuch("fate(32)", () -> all.fate(32));
            Check.noSuch("fate(-32)", () -> all.fate(-32));
        });
    }

    // ---- what a CASE weighs, and its FEE

    private static void weights() {
        Edge.of(7, "A CASE's WEIGHT: of its THINGS, together; OVER: how much more than LIMIT (0 at least).", () -> {
            for (int weight = 18; weight <= 23; weight++) {
                PoundsOver x = Check.told("person 1 9 9;case 0 20 9 9;case 0 0 9 9;thing " + weight + " 9 0 0 0;");
                Check.due("WEIGHT", x.box(0, 5), weight);
                Check.due("OVER of " + weight, x.box(0, 7), weight - 20 > 0 ? weight - 20 : 0);
                Check.due("OVER of an empty one", x.box(1, 7), 0);
                PoundsOver parts = Check.told("person 1 9 9;case 0 20 9 9;thing " + (weight - 1) + " 9 0 0 0;thing 1 0 0 0 0;coat 0 0 0 0 0 9;");
                Check.due("WEIGHT of two", parts.box(0, 5), weight);
                Check.due("OVER of two", parts.box(0, 7), weight - 20 > 0 ? weight - 20 : 0);
            }
            PoundsOver none = Check.told("person 1 9 9;case 0 0 9 9;thing 0 0 0 0 0;");
            Check.due("OVER of 0 with a LIMIT of 0", none.box(0, 7), 0);
            PoundsOver one = Check.told("person 1 9 9;case 0 0 9 9;thing 1 0 0 0 0;");
            Check.due("OVER of 1 with a LIMIT of 0", one.box(0, 7), 1);
            one.shift(0, 10);
            Check.due("what is on a PERSON isn't in it", one.box(0, 5), 0);
            PoundsOver full = Check.told("person 1 9 9;case 0 200 9 9;thing 60 0 0 0 0;thing 60 0 0 0 0;thing 60 0 0 0 0;thing 20 0 0 0 0;");
            Check.due("OVER of 200", full.box(0, 7), 0);
            PoundsOver over = Check.told("person 1 9 9;case 0 200 9 9;thing 60 0 0 0 0;thing 60 0 0 0 0;thing 60 0 0 0 0;thing 21 0 0 0 0;");
            Check.due("OVER of 201", over.box(0, 7), 1);
        });
        Edge.of(13, "It GOES if it is not OVER.", () -> {
            for (int weight = 19; weight <= 21; weight++) {
                PoundsOver x = Check.told("person 1 9 9;case 0 20 9 9;thing " + weight + " 0 0 0 0;");
                boolean goes = weight <= 20;
                Check.due("lawful() of " + weight, x.lawful(), goes ? 0 : 20);
                Check.due("opened() of " + weight, x.opened(), goes ? 0 : -1);
                Check.due("sure(0, 2) of " + weight, x.sure(0, 2), goes ? 1 : 0);
                Check.due("counter of " + weight, x.counter(3, 9, 1), goes ? 9 : 0);
            }
        });
    }

    /** The FEE by a rule of a CASE with the LIMIT 20. */
    private static int fee(int weight, String rule) {
        return Check.told("person 1 1 1;case 0 20 60 0;thing " + weight + " 0 1 1 0;" + rule).box(0, 8);
    }

    private static void fees() {
        Edge.of(7, "Its FEE: 0 if it isn't OVER; else what the rule gives", () -> {
            for (int weight = 19; weight <= 22; weight++) {
                int over = weight > 20 ? weight - 20 : 0;
                Check.due("FEE of " + weight, fee(weight, "fee 77;"), over > 0 ? 77 : 0);
                Check.due("FEE of " + weight, fee(weight, "fee over;"), over);
                Check.due("FEE of " + weight, fee(weight, "fee 0;"), 0);
                Check.due("FEE of " + weight, fee(weight, "fee weight;"), over > 0 ? weight : 0);
            }
            Check.due("FEE of an empty one", Check.told("person 1 1 1;case 0 0 0 0;fee 5;").box(0, 8), 0);
        });
        Edge.of(7, "(kept to 0 to 9999; without one 10 for each pound that is OVER)", () -> {
            String[] rules = {"0-2", "0-1", "0", "1", "9998", "9999", "9999+1", "9999+2", "9999*9999", "0-9999*9999",
                "9999*9999*21+9999*4790+8416", "9999*9999*21+9999*4790+8416+1"};
            int[] fees = {0, 0, 0, 1, 9998, 9999, 9999, 9999, 9999, 0, 9999, 0};
            for (int i = 0; i < rules.length; i++) {
                Check.due("FEE by " + rules[i], fee(21, "fee " + rules[i] + ";"), fees[i]);
            }
            int[] weights = {19, 20, 21, 22, 60};
            int[] without = {0, 0, 10, 20, 400};
            for (int i = 0; i < 5; i++) {
                Check.due("FEE of " + weights[i] + " without a rule", fee(weights[i], ""), without[i]);
            }
            PoundsOver most = Check.told("person 1 1 1;case 0 0 0 0;" + "thing 60 0 0 0 0;".repeat(12));
            Check.due("the greatest FEE without a rule", most.box(0, 8), 7200);
            Check.due("and THE BILL", most.bill(), 7200);
        });
    }
}
