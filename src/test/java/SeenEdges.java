import java.math.BigInteger;

/** The boundaries of what is SEEN, of SHIFTS that are only tried, and of an IMAGE: promises 26 to 32. */
final class SeenEdges {
    private static final String PERSON = "person 9 9 9;";

    private SeenEdges() {
    }

    static void all() {
        see();
        forget();
        fits();
        best();
        counter();
        draws();
        image();
        restore();
    }

    // ---- promises 26 and 27

    private static void see() {
        String hall = PERSON + "case 0 9 9 9;case 0 9 9 9;thing 1 0 0 0 0;";
        Edge.of(26, "SEEN: how much is. NONE (STATUS 2): there are 6, it is below 0, above 999.", () -> {
            int[] weights = {-2, -1, 0, 1, 500, 998, 999, 1000, 1001, Integer.MIN_VALUE, Integer.MAX_VALUE};
            for (int weight : weights) {
                PoundsOver x = Check.told(hall);
                boolean can = weight >= 0 && weight <= 999;
                Check.due("see(1, " + weight + ")", x.see(1, weight), can ? 1 : -1);
                Check.due("SEEN", x.count(8), can ? 1 : 0);
                Check.due("STATUS 2", x.count(12), can ? 0 : 1);
            }
            PoundsOver x = Check.told(hall);
            for (int i = 1; i <= 6; i++) {
                Check.due("see " + i, x.see(i % 2, i), i);
                Check.due("SEEN", x.count(8), i);
            }
            for (int i = 7; i <= 9; i++) {
                Check.due("see " + i, x.see(i % 2, i), -1);
                Check.due("SEEN", x.count(8), 6);
                Check.due("STATUS 2", x.count(12), i - 6);
            }
            Check.due("forget()", x.forget(), 5);
            Check.due("see 6", x.see(0, 0), 6);
            Check.due("see 7", x.see(0, 0), -1);
        });
        Edge.of(26, "NoSuchElementException (ahead): no such CASE.", () -> {
            PoundsOver x = Check.told(hall);
            for (int weight : new int[] {-1, 0, 999, 1000}) {
                Check.noSuch("see(2, " + weight + ")", () -> x.see(2, weight));
                Check.noSuch("see(-1, " + weight + ")", () -> x.see(-1, weight));
            }
            for (int i = 0; i < 6; i++) {
                Check.due("see(1, 0)", x.see(1, 0), i + 1);
            }
            Check.noSuch("see(2, 0) with 6", () -> x.see(2, 0));
            Check.due("STATUS 2", x.count(12), 0);
        });
        Edge.of(26, "SEEN was (at most 6) a CASE's WEIGHT", () -> {
            for (int n = 0; n <= 6; n++) {
                PoundsOver x = Check.told(hall);
                for (int i = 0; i < n; i++) {
                    x.see(0, i == n - 1 ? 2 : 1);
                }
                // The last one of n isn't so.
                Check.due("fits(2) with " + n, x.fits(2), n == 0 ? 1 : 0);
                x.forget();
                Check.due("fits(2) with one less", x.fits(2), 1);
                for (int i = x.count(8); i < 6; i++) {
                    x.see(0, 1);
                }
                Check.due("a seventh", x.see(0, 2), -1);
                Check.due("fits(2) with six that are so", x.fits(2), 1);
            }
        });
    }

    private static void forget() {
        Edge.of(27, "What was SEEN last is forgotten: how much is left. NONE: there is none.", () -> {
            PoundsOver x = Check.told(PERSON + "case 0 9 9 9;thing 1 0 0 0 0;");
            Check.due("forget() of none", x.forget(), -1);
            Check.due("STATUS 2", x.count(12), 0);
            x.see(0, 1);
            x.see(0, 2);
            Check.due("fits(2)", x.fits(2), 0);
            Check.due("forget()", x.forget(), 1);
            Check.due("fits(2) by the first", x.fits(2), 1);
            Check.due("forget()", x.forget(), 0);
            Check.due("forget()", x.forget(), -1);
            Check.due("forget()", x.forget(), -1);
            Check.due("SEEN", x.count(8), 0);
            for (int i = 0; i < 6; i++) {
                x.see(0, i);
            }
            for (int i = 5; i >= 0; i--) {
                Check.due("forget() of six", x.forget(), i);
            }
            Check.due("forget()", x.forget(), -1);
        });
    }

    // ---- promise 28

    private static void fits(String what, PoundsOver x, int... want) {
        int acts = x.count(7);
        for (int i = 0; i < 3; i++) {
            Check.due(what + ": fits(" + i + ")", x.fits(i), want[i]);
        }
        Check.due(what + ": nothing is shifted", x.count(7), acts);
    }

    private static void fits() {
        Edge.of(28, "SHIFTS of one THING (in a CASE, into another CASE, as it may) by which all SEEN ones are so: how many;"
            + " the first (100 by THING and PLACE); whether they are so as it is (1).", () -> {
            String hall = PERSON + "case 0 9 9 9;case 0 9 9 9 board;case 0 9 2 9;sharp 3 0 1 0 0;thing 4 0 2 0 0;shirt 5 0 2 0 2;";
            PoundsOver x = Check.told(hall);
            // The sharp one to none (BOARD, HOLDS), the thing to 1, the shirt to 0 and 1.
            fits("nothing SEEN", x, 3, 101, 1);
            x.see(0, 7);
            fits("as it is", x, 1, 201, 1);
            x.forget();
            for (int weight = 2; weight <= 4; weight++) {
                x.see(0, weight);
                fits("SEEN " + weight, x, weight == 3 ? 1 : 0, weight == 3 ? 101 : -1, 0);
                x.see(1, 4);
                fits("SEEN " + weight + " and 4", x, weight == 3 ? 1 : 0, weight == 3 ? 101 : -1, 0);
                x.see(2, 6);
                fits("SEEN " + weight + ", 4 and 6", x, 0, -1, 0);
                x.forget();
                x.forget();
                x.forget();
            }
            x.see(2, 0);
            fits("the third is empty", x, 2, 200, 0);
            x.shift(2, 10);
            fits("what is on a PERSON isn't SHIFTED", x, 1, 101, 1);
            x.shift(0, 10);
            fits("and makes room", x, 1, 101, 1);
            x.shift(1, 20);
            fits("what is thrown away isn't SHIFTED", x, 0, -1, 1);
            Check.due("six THINGS to four CASES", Check.told(PERSON + "case 0 9 9 9;".repeat(5) + "thing 1 0 0 0 4;".repeat(6)).fits(0), 24);
            PoundsOver twelve = Check.told(PERSON + "case 0 9 9 9;".repeat(5) + "thing 0 0 0 0 0;".repeat(11) + "thing 9 0 0 0 0;");
            fits("twelve THINGS to four CASES", twelve, 48, 1, 1);
            twelve.see(4, 9);
            fits("the last THING to the last CASE", twelve, 1, 1104, 0);
            PoundsOver one = Check.told(PERSON + "case 0 9 9 9;thing 1 0 0 0 0;");
            fits("one CASE", one, 0, -1, 1);
            one.see(0, 999);
            fits("one CASE", one, 0, -1, 0);
            PoundsOver holds = Check.told(PERSON + "case 0 0 9 9;case 0 0 3 9;thing 1 0 2 0 0;thing 1 0 3 0 0;thing 1 0 4 0 0;");
            fits("HOLDS", holds, 2, 1, 1);
            holds.see(0, 3);
            holds.see(0, 2);
            fits("SEEN so and not so", holds, 0, -1, 0);
        });
        Edge.of(28, "how many (what 0), the first (1; NONE: none), as it is (2).", () -> {
            PoundsOver x = Check.told(PERSON + "case 0 9 9 9;case 0 9 9 9;thing 4 0 0 0 0;thing 3 0 0 0 0;thing 4 0 0 0 0;");
            int[] seen = {6, 7, 8, 10, 11, 12};
            int[] many = {0, 2, 1, 0, 0, 0};
            int[] first = {-1, 1, 101, -1, -1, -1};
            for (int i = 0; i < seen.length; i++) {
                x.see(0, seen[i]);
                fits("SEEN " + seen[i], x, many[i], first[i], seen[i] == 11 ? 1 : 0);
                x.forget();
            }
            fits("the first THING to the least CASE", Check.told(PERSON + "case 0 9 9 9;case 0 9 9 9;thing 0 0 0 0 1;"), 1, 0, 1);
        });
        Edge.of(28, "NoSuchElementException: another what.", () -> {
            FactEdges.indices("fits", Check.told(PERSON + "case 0 9 9 9;thing 1 0 0 0 0;"), 3, PoundsOver::fits);
            FactEdges.indices("fits", new PoundsOver(), 3, PoundsOver::fits);
        });
    }

    // ---- promise 29

    private static void best(String what, PoundsOver x, int... want) {
        int acts = x.count(7);
        for (int i = 0; i < 3; i++) {
            Check.due(what + ": best(" + i + ")", x.best(i), want[i]);
        }
        Check.due(what + ": nothing is shifted", x.count(7), acts);
    }

    private static void best() {
        Edge.of(29, "by which THE BILL becomes least (less than it is), of like ones the least THING, then the least PLACE; none.", () -> {
            String over = "person 9 0 0;case 0 20 9 ";
            for (int cost = 8; cost <= 12; cost++) {
                // One pound is OVER, so it is 10; to throw it away opens the CASE.
                best("COST " + cost, Check.told(over + cost + ";thing 21 0 3 0 0;"), cost < 10 ? new int[] {0, 20, cost} : new int[] {-1, -1, -1});
                best("VALUE " + cost, Check.told(over + "0;thing 21 0 3 " + cost + " 0;"), cost < 10 ? new int[] {0, 20, cost} : new int[] {-1, -1, -1});
                best("PRICE " + cost, Check.told(over + "0;thing 21 0 3 999 0;post 30 " + cost + ";"),
                    cost < 10 ? new int[] {0, 21, cost} : new int[] {-1, -1, -1});
            }
            best("all GO", Check.told(over + "0;thing 20 0 3 0 0;"), -1, -1, -1);
            best("the least THING", Check.told(over + "0;thing 11 0 3 5 0;thing 11 0 3 5 0;"), 0, 20, 5);
            best("a better THING", Check.told(over + "0;thing 11 0 3 5 0;thing 11 0 3 4 0;"), 1, 20, 4);
            best("the least PLACE of two", Check.told(over + "0;thing 21 0 3 5 0;post 60 5;"), 0, 20, 5);
            best("the better PLACE of two", Check.told(over + "0;thing 21 0 3 5 0;post 60 4;"), 0, 21, 4);
            best("posted ahead of eaten", Check.told(over + "0;food 21 0 3 5 0;post 60 0;"), 0, 21, 0);
            best("eaten", Check.told(over + "0;food 21 0 3 5 0;post 60 1;"), 0, 22, 0);
            best("a PERSON ahead of thrown away", Check.told("person 9 2 0;case 0 20 9 0;food 21 0 2 0 0;"), 0, 10, 0);
            best("the least PERSON", Check.told("person 9 1 0;person 9 2 0;person 9 2 0;case 0 20 9 0;food 21 0 2 0 0;"), 0, 11, 0);
            best("the last PERSON", Check.told("person 9 1 0;person 9 1 0;person 9 1 0;person 9 2 0;case 0 20 9 0;food 21 0 2 0 0;"), 0, 13, 0);
            best("a CASE ahead of a PERSON", Check.told("person 9 2 0;case 0 20 9 0;case 0 21 9 0;food 21 0 2 0 0;"), 0, 1, 0);
            best("the last CASE", Check.told("person 9 0 0;" + "case 0 20 9 0;".repeat(4) + "case 0 21 9 0;thing 21 0 2 1 0;"), 0, 4, 0);
            best("the last THING", Check.told("person 9 0 0;case 0 20 60 0;" + "thing 1 0 3 9 0;".repeat(11) + "thing 10 0 3 9 0;"), 0, 20, 9);
            best("the last THING", Check.told("person 9 0 0;case 0 20 60 0;" + "thing 1 0 3 9 0;".repeat(11) + "thing 10 0 3 8 0;"), 11, 20, 8);
        });
        Edge.of(29, "BEST SHIFT: that of one THING to any PLACE to which it may come (from CASES and PEOPLE)", () -> {
            String odd = PERSON + "case 0 20 9 3;thing 1 0 1 5 0;thing 30 0 4 900 0;fee 90-things*40;";
            PoundsOver x = Check.told(odd);
            best("two are in it", x, -1, -1, -1);
            x.shift(0, 10);
            Check.due("bill()", x.bill(), 53);
            best("from a PERSON into a CASE", x, 0, 0, 13);
            x.shift(0, 20);
            Check.due("bill()", x.bill(), 58);
            best("what is thrown away stays", x, -1, -1, -1);
            // It may not come where it would be best.
            best("HOLDS", Check.told("person 9 0 0;case 0 20 9 0;case 0 21 2 0;case 0 21 3 0;food 21 0 3 5 0;"), 0, 2, 0);
            best("BOARD", Check.told("person 9 0 0;case 0 20 9 0;case 0 21 9 0 board;case 0 21 3 0;sharp 21 0 3 5 0;"), 0, 2, 0);
            best("HEAT", Check.told("person 9 0 4;person 9 0 5;case 0 20 9 0;coat 21 0 3 5 0 5;"), 0, 11, 0);
            best("POCKETS", Check.told("person 9 1 4;person 9 2 5;case 0 20 9 0;shirt 21 0 2 5 0;"), 0, 11, 0);
            PoundsOver opened = Check.told("person 9 9 9;case 0 20 9 3;case 0 20 9 4;thing 21 0 3 5 0;thing 0 0 1 0 1;");
            best("COSTS of the CASE", opened, 0, 20, 8);
            opened.shift(1, 0);
            Check.due("bill()", opened.bill(), 17);
            best("COSTS that are paid already", opened, 0, 20, 12);
        });
        Edge.of(29, "the THING (what 0), the PLACE (1), THE BILL then (2); NONE: none. NoSuchElementException: another what.", () -> {
            PoundsOver x = Check.told("person 9 9 9;case 0 20 9 3;thing 21 0 3 5 0;");
            best("one", x, 0, 20, 8);
            FactEdges.indices("best", x, 3, PoundsOver::best);
            FactEdges.indices("best", new PoundsOver(), 3, PoundsOver::best);
            best("nothing", new PoundsOver(), -1, -1, -1);
        });
    }

    // ---- promise 30

    private static final BigInteger INTS = BigInteger.ONE.shiftLeft(32);

    /** A COUNTER over again: the seed in a whole number without a bound, the SHIFTS by calls of the face. */
    private static final class Counter {
        private BigInteger seed;
        private final PoundsOver x;
        int shifted;
        int states;

        Counter(String hall, int seed, int shifts) {
            this.seed = BigInteger.valueOf(seed).mod(INTS);
            this.x = Check.told(hall);
            for (int i = 0; i < shifts; i++) {
                once();
            }
        }

        private int draw(int n) {
            seed = seed.multiply(BigInteger.valueOf(1103515245)).add(BigInteger.valueOf(12345)).mod(INTS);
            return seed.shiftRight(16).mod(BigInteger.ONE.shiftLeft(15)).mod(BigInteger.valueOf(n)).intValue();
        }

        private void once() {
            int thing = draw(x.count(2));
            int c = draw(x.count(1));
            if (x.thing(thing, 5) < 10 && x.thing(thing, 5) != c && x.may(thing, c)) {
                x.shift(thing, c);
                shifted++;
            }
            boolean goes = true;
            for (int i = 0; i < x.count(1); i++) {
                goes &= x.box(i, 5) <= x.box(i, 1);
            }
            states += goes ? 1 : 0;
        }
    }

    private static final String[] HALLS = {
        PERSON + "case 0 4 9 0;thing 5 0 1 1 0;",
        PERSON + "case 0 5 9 0;case 0 4 9 0;thing 5 0 1 1 0;",
        PERSON + "case 0 9 5 7;case 0 4 5 3 board;thing 2 0 1 1 0;sharp 3 0 2 1 0;coat 4 0 1 1 1 1;",
        PERSON + "case 0 9 5 7;case 0 8 5 3 board;case 0 12 3 9;thing 2 0 1 1 0;sharp 3 0 2 1 0;coat 4 0 1 1 1 1;food 5 0 3 1 2;glass 6 0 2 1 1;",
        PERSON + "case 0 40 60 0;case 0 30 50 0;case 0 20 40 0;case 0 30 9 0;case 0 30 20 0 board;" + "thing 5 0 3 1 0;sharp 6 0 2 1 1;".repeat(6),
    };

    private static void counter() {
        Edge.of(30, "each time a THING is drawn, then a DRAW of CASES: it is SHIFTED into that, if it is in another CASE and may: how many were;"
            + " in how many of all states behind a draw everything GOES.", () -> {
            int[] seeds = {0, 1, 5, -1, 12345, Integer.MIN_VALUE, Integer.MAX_VALUE};
            for (String hall : HALLS) {
                PoundsOver x = Check.told(hall);
                int bits = x.box(0, 9);
                for (int seed : seeds) {
                    for (int shifts : new int[] {0, 1, 2, 3, 20}) {
                        Counter want = new Counter(hall, seed, shifts);
                        Check.due("counter(" + seed + ", " + shifts + ", 0)", x.counter(seed, shifts, 0), want.shifted);
                        Check.due("counter(" + seed + ", " + shifts + ", 1)", x.counter(seed, shifts, 1), want.states);
                    }
                }
                Check.due("what is stays", x.box(0, 9), bits);
                Check.due("nothing is opened, no ACT is kept", x.count(6) + x.count(7), 0);
            }
        });
        Edge.of(30, "A COUNTER by a seed (0 to 200 SHIFTS)", () -> {
            for (String hall : HALLS) {
                PoundsOver x = Check.told(hall);
                for (int shifts : new int[] {0, 1, 199, 200}) {
                    Counter want = new Counter(hall, 77, shifts);
                    Check.due("counter(77, " + shifts + ", 0)", x.counter(77, shifts, 0), want.shifted);
                    Check.due("counter(77, " + shifts + ", 1)", x.counter(77, shifts, 1), want.states);
                }
            }
        });
        Edge.of(30, "A COUNTER: how many were (what 0), in how many states (1).", () -> {
            // It always GOES, it never does, and in one of the two CASES.
            PoundsOver always = Check.told(PERSON + "case 0 5 9 0;case 0 5 9 0;thing 5 0 1 1 0;");
            PoundsOver never = Check.told(PERSON + "case 0 4 9 0;case 0 4 9 0;thing 5 0 1 1 0;");
            for (int shifts : new int[] {0, 1, 2, 199, 200}) {
                int were = new Counter(HALLS[1], 9, shifts).shifted;
                Check.due("how many were", always.counter(9, shifts, 0), were);
                Check.due("how many were", never.counter(9, shifts, 0), were);
                Check.due("in all states", always.counter(9, shifts, 1), shifts);
                Check.due("in none", never.counter(9, shifts, 1), 0);
            }
        });
        Edge.of(30, "NoSuchElementException: another what. IllegalArgumentException (behind that): how many SHIFTS.", () -> {
            for (PoundsOver x : new PoundsOver[] {Check.told(HALLS[2]), new PoundsOver()}) {
                FactEdges.indices("counter(1, 9, ?)", x, 2, (y, i) -> y.counter(1, 9, i));
                for (int shifts : new int[] {-1, -2, 201, 202, Integer.MIN_VALUE, Integer.MAX_VALUE}) {
                    Check.illegal("counter(1, " + shifts + ", 0)", () -> x.counter(1, shifts, 0));
                    Check.illegal("counter(1, " + shifts + ", 1)", () -> x.counter(1, shifts, 1));
                    Check.noSuch("counter(1, " + shifts + ", 2)", () -> x.counter(1, shifts, 2));
                    Check.noSuch("counter(1, " + shifts + ", -1)", () -> x.counter(1, shifts, -1));
                }
            }
        });
    }

    private static void draws() {
        Edge.of(30, "A seed becomes itself times 1103515245 and 12345 (an int that wraps); a DRAW of n is its bits 16 to 30 MOD n then.", () -> {
            // One THING and two CASES: a single time tells the second DRAW's lowest bit, so 64 seeds tell the bits apart.
            PoundsOver x = Check.told(HALLS[1]);
            for (int i = 0; i < 64; i++) {
                int seed = i * 0x04000001 + (i << 13);
                int then = (seed * 1103515245 + 12345) * 1103515245 + 12345;
                Check.due("counter(" + seed + ", 1, 0)", x.counter(seed, 1, 0), then >> 16 & 1);
                Check.due("counter(" + seed + ", 1, 1)", x.counter(seed, 1, 1), 1 - (then >> 16 & 1));
            }
            // With five CASES and twelve THINGS the bits above count too, the sign doesn't.
            PoundsOver five = Check.told(HALLS[4]);
            for (int i = 0; i < 64; i++) {
                int seed = i * 0x04000001 + (i << 13);
                Counter want = new Counter(HALLS[4], seed, 2);
                Check.due("counter(" + seed + ", 2, 0)", five.counter(seed, 2, 0), want.shifted);
                Check.due("counter(" + seed + ", 2, 1)", five.counter(seed, 2, 1), want.states);
            }
        });
        Edge.of(30, "(Nothing is drawn without THINGS or CASES; what is stays.)", () -> {
            PoundsOver[] bare = {new PoundsOver(), Check.told(PERSON), Check.told(PERSON + "case 0 9 9 9;")};
            for (PoundsOver x : bare) {
                for (int shifts : new int[] {0, 1, 200}) {
                    Check.due("counter(1, " + shifts + ", 0)", x.counter(1, shifts, 0), 0);
                    Check.due("counter(1, " + shifts + ", 1)", x.counter(1, shifts, 1), 0);
                }
            }
            PoundsOver gone = Check.told(PERSON + "case 0 9 9 9;case 0 9 9 9;thing 1 0 1 1 0;coat 1 0 1 1 0 1;");
            gone.shift(0, 20);
            gone.shift(1, 10);
            Check.due("nothing is in a CASE", gone.counter(1, 200, 0), 0);
            Check.due("all states GO", gone.counter(1, 200, 1), 200);
            Check.due("what is stays", gone.thing(0, 5) + gone.thing(1, 5), 30);
            Check.due("ACTS", gone.count(7), 2);
        });
    }

    // ---- promises 31 and 32

    private static void image() {
        Edge.of(31, "AN IMAGE keeps where THINGS are, what was opened, ACTS that are kept, what is SEEN, STATUS.", () -> {
            PoundsOver x = Check.told(PERSON + "case 0 9 9 9;case 0 9 9 9;" + "thing 1 0 0 0 0;".repeat(12));
            for (int i = 0; i < 41; i++) {
                x.shift(11, i % 2 == 0 ? 1 : 10);
            }
            for (int i = 0; i < 6; i++) {
                x.see(1, 1);
            }
            x.see(1, 1);
            x.shift(0, 0);
            Check.hall(x, "x");
            x.image();
            int[] counts = {1, 2, 12, 0, 0, 0, 3, 40, 6, 0, 1, 1, 1};
            for (int i = 0; i < 12; i++) {
                x.shift(i, 20);
            }
            while (x.forget() > 0) {
                x.see(0, -1);
            }
            x.see(0, 0);
            Check.hall(x, "x");
            Check.hall(x, "x");
            Check.due("restore()", x.restore(), true);
            for (int what = 0; what < 13; what++) {
                Check.due("count(" + what + ")", x.count(what), counts[what]);
            }
            for (int t = 0; t < 12; t++) {
                Check.due("PLACE of " + t, x.thing(t, 5), t == 11 ? 1 : 0);
            }
            Check.due("what is SEEN", x.fits(2), 1);
            x.shift(11, 10);
            Check.due("what is SEEN", x.fits(2), 0);
            x.undo();
            for (int i = 39; i >= 1; i--) {
                Check.due("undo()", x.undo(), i - 1);
                Check.due("PLACE", x.thing(11, 5), i % 2 == 0 ? 1 : 10);
            }
            Check.due("undo() of none", x.undo(), -1);
        });
        Edge.of(31, "AN IMAGE is kept, in place of another one.", () -> {
            PoundsOver x = Check.told(PERSON + "case 0 9 9 9;case 0 9 9 9;thing 1 0 0 0 0;");
            x.image();
            x.shift(0, 1);
            x.image();
            x.shift(0, 10);
            for (int again = 0; again < 3; again++) {
                Check.due("restore()", x.restore(), true);
                Check.due("PLACE", x.thing(0, 5), 1);
                Check.due("ACTS", x.count(7), 1);
                x.shift(0, 20);
            }
        });
    }

    private static void restore() {
        Edge.of(32, "It is as the IMAGE again: true. False: there is none.", () -> {
            PoundsOver x = Check.told(PERSON + "case 0 9 9 9;case 0 9 9 9;thing 1 0 0 0 0;");
            Check.due("restore() of none", x.restore(), false);
            x.shift(0, 1);
            Check.due("restore() of none", x.restore(), false);
            Check.due("PLACE", x.thing(0, 5), 1);
            x.image();
            Check.due("restore() as it is", x.restore(), true);
            Check.due("PLACE", x.thing(0, 5), 1);
            x.undo();
            Check.due("restore()", x.restore(), true);
            Check.due("what was UNDONE is as it was", x.thing(0, 5) * 10 + x.count(7), 11);
            // The tape, a FAULT's place and the rows aren't in it.
            Check.hall(x, "  x");
            Check.feed(x, "person 5 5 5;");
            x.cheap(1);
            x.share();
            Check.due("restore()", x.restore(), true);
            Check.due("count(9)", x.count(9), 20);
            Check.due("fault()", x.fault(), 2);
            Check.due("fate(0)", x.fate(0), 0);
            Check.due("carrier(1)", x.carrier(1), 0);
            Check.due("a HALL", x.hall(20), 0);
            Check.due("restore() behind a HALL", x.restore(), false);
            x.image();
            Check.due("restore() of a new one", x.restore(), true);
        });
    }
}
