/** The boundaries of what is put anew: between two CASES, OPENED, for one CASE; promises 14 to 17. */
final class PackingEdges {
    private static final String PERSON = "person 9 9 9;";

    private PackingEdges() {
    }

    static void all() {
        betweenTwo();
        fewest();
        noTwo();
        sets();
        coats();
        leastCosts();
        spent();
        forOne();
        rowsForOne();
        fates();
    }

    private static void two(String what, PoundsOver x, int one, int other, int want) {
        Check.due(what + ": two(" + one + ", " + other + ")", x.two(one, other), want);
        Check.due(what + ": two(" + other + ", " + one + ")", x.two(other, one), want);
    }

    // ---- promise 14

    private static void betweenTwo() {
        Edge.of(14, "BETWEEN TWO CASES: THINGS of both (no others) changed over, so that neither is OVER", () -> {
            for (int limit = 0; limit <= 12; limit++) {
                PoundsOver x = Check.told(PERSON + "case 0 10 9 0;case 0 " + limit + " 9 0;thing 7 0 0 0 0;thing 4 0 0 0 0;");
                two("LIMIT " + limit, x, 0, 1, limit >= 7 ? 1 : limit >= 4 ? 2 : -1);
                PoundsOver there = Check.told(PERSON + "case 0 10 9 0;case 0 " + limit + " 9 0;thing 7 0 0 0 1;thing 4 0 0 0 0;");
                two("LIMIT " + limit, there, 0, 1, limit >= 7 ? 0 : limit >= 4 ? 3 : -1);
            }
            for (int weight = 4; weight <= 7; weight++) {
                PoundsOver x = Check.told(PERSON + "case 0 5 9 0;case 0 9 9 0;case 0 0 9 0;thing " + weight + " 0 0 0 0;"
                    + "thing 4 0 0 0 1;coat 50 0 0 0 2 1;");
                two("WEIGHT " + weight, x, 0, 1, weight <= 5 ? 0 : 3);
                x.shift(1, 10);
                two("the other on a PERSON, WEIGHT " + weight, x, 0, 1, weight <= 5 ? 0 : 1);
                two("with a third one OVER", x, 0, 2, -1);
                x.shift(2, 10);
                x.shift(0, 2);
                two("in a third one", x, 0, 1, 0);
            }
            // A THING of a third CASE would make room for all, but isn't of both.
            PoundsOver third = Check.told(PERSON + "case 0 5 9 0;case 0 5 9 0;case 0 60 9 0;thing 6 0 0 0 0;thing 0 0 0 0 2;");
            two("none of both", third, 0, 1, -1);
            two("with the third", third, 0, 2, 1);
        });
        Edge.of(14, "(HOLDS, BOARD as ever, for both as they are then)", () -> {
            for (int size = 0; size <= 5; size++) {
                PoundsOver x = Check.told(PERSON + "case 0 5 9 0;case 0 20 4 0;thing 6 0 " + size + " 0 0;");
                two("SIZE " + size, x, 0, 1, size <= 4 ? 1 : -1);
                PoundsOver with = Check.told(PERSON + "case 0 5 9 0;case 0 20 4 0;thing 6 0 " + size + " 0 0;thing 4 0 1 0 1;");
                two("SIZE " + size + " with 1", with, 0, 1, size <= 3 ? 1 : size == 4 ? 3 : -1);
                // With what comes 24 are in the other one: 4 of them come back, if there is room.
                PoundsOver change = Check.told(PERSON + "case 0 5 4 0;case 0 20 20 0;thing 6 0 4 0 0;thing 4 0 " + size + " 0 1;"
                    + "thing 14 0 0 0 1;");
                two("SIZE " + size + " back", change, 0, 1, size <= 4 ? 3 : -1);
            }
            PoundsOver full = Check.told(PERSON + "case 0 5 10 0;case 0 6 10 0;thing 6 0 10 0 0;thing 5 0 10 0 1;");
            two("both are full", full, 0, 1, 3);
            PoundsOver less = Check.told(PERSON + "case 0 5 10 0;case 0 6 9 0;thing 6 0 10 0 0;thing 5 0 9 0 1;");
            two("one holds less", less, 0, 1, -1);
            for (String kind : Model.KINDS) {
                String heat = kind.equals("coat") ? " 1;" : ";";
                PoundsOver x = Check.told(PERSON + "case 0 5 9 0;case 0 20 9 0 board;" + kind + " 6 0 0 0 0" + heat);
                two(kind + " with BOARD", x, 0, 1, kind.equals("sharp") ? -1 : 1);
                PoundsOver y = Check.told(PERSON + "case 0 5 9 0;case 0 20 9 0;" + kind + " 6 0 0 0 0" + heat);
                two(kind + " without BOARD", y, 0, 1, 1);
            }
            PoundsOver from = Check.told(PERSON + "case 0 5 9 0 board;case 0 20 9 0;sharp 6 0 0 0 1;thing 6 0 0 0 0;");
            two("a sharp one may stay", from, 0, 1, 2);
        });
    }

    private static void fewest() {
        Edge.of(14, "the fewest; of as few the least as bits; none.", () -> {
            String cases = PERSON + "case 0 6 60 0;case 0 60 60 0;";
            two("one ahead of two of less bits", Check.told(cases + "thing 3 0 0 0 0;thing 3 0 0 0 0;thing 6 0 0 0 0;"), 0, 1, 4);
            two("the least of three", Check.told(cases + "thing 4 0 0 0 0;thing 4 0 0 0 0;thing 2 0 0 0 0;"), 0, 1, 1);
            two("the least of those that will do", Check.told(cases + "thing 1 0 0 0 0;thing 4 0 0 0 0;thing 4 0 0 0 0;"), 0, 1, 2);
            two("two of three", Check.told(cases + "thing 5 0 0 0 0;thing 5 0 0 0 0;thing 5 0 0 0 0;"), 0, 1, 3);
            two("two of four", Check.told(cases + "thing 0 0 0 0 0;thing 5 0 0 0 0;thing 5 0 0 0 0;thing 5 0 0 0 0;"), 0, 1, 6);
            String nothing = PERSON + "case 0 0 60 0;case 0 60 60 0;";
            for (int n : new int[] {1, 2, 11, 12}) {
                two("all of " + n, Check.told(nothing + "thing 5 0 5 0 0;".repeat(n)), 0, 1, (1 << n) - 1);
                two("none of " + n, Check.told(nothing.replace(" 60 60", " " + (5 * n - 1) + " 60") + "thing 5 0 5 0 0;".repeat(n)), 0, 1, -1);
            }
            two("the last of twelve", Check.told(cases + "thing 0 0 0 0 0;".repeat(11) + "thing 7 0 0 0 0;"), 0, 1, 2048);
        });
        Edge.of(14, "THINGS, as bits (0: both GO as it is); NONE: none.", () -> {
            for (int weight = 4; weight <= 7; weight++) {
                PoundsOver x = Check.told(PERSON + "case 0 5 9 0;case 0 5 9 0;case 0 6 9 0;thing 0 0 0 0 0;thing " + weight + " 0 0 0 0;");
                two("WEIGHT " + weight, x, 0, 1, weight <= 5 ? 0 : -1);
                two("WEIGHT " + weight, x, 0, 2, weight <= 5 ? 0 : weight == 6 ? 2 : -1);
                Check.due("it stays as it is", x.thing(1, 5) + x.count(7) + x.count(6), 0);
            }
            PoundsOver empty = Check.told(PERSON + "case 0 0 0 0;case 0 0 0 0;");
            two("empty ones", empty, 0, 1, 0);
        });
    }

    private static void noTwo() {
        Edge.of(14, "IllegalArgumentException (behind NoSuchElementException): both are one.", () -> {
            PoundsOver x = Check.told(PERSON + "case 0 5 9 0;".repeat(3));
            for (int c = 0; c < 3; c++) {
                int same = c;
                Check.illegal("two(" + c + ", " + c + ")", () -> x.two(same, same));
                two("of others", x, c, (c + 1) % 3, 0);
            }
            for (int c : new int[] {-1, 3, 4, Integer.MIN_VALUE, Integer.MAX_VALUE}) {
                Check.noSuch("two(" + c + ", " + c + ")", () -> x.two(c, c));
                Check.noSuch("two(0, " + c + ")", () -> x.two(0, c));
                Check.noSuch("two(" + c + ", 0)", () -> x.two(c, 0));
            }
        });
    }

    // ---- promise 15

    private static void opened(String what, String hall, int want) {
        PoundsOver x = Check.told(hall);
        Check.due(what + ": opened()", x.opened(), want);
        Check.due(what + ": nothing is shifted", x.count(7) + x.count(6), 0);
    }

    private static void sets() {
        Edge.of(15, "OPENED: sets of CASES so that THINGS in these can be put in them in any way (HOLDS, BOARD as ever)", () -> {
            for (int size = 2; size <= 6; size++) {
                // In the other CASE there is room for 4, and for what comes back from there.
                opened("SIZE " + size, PERSON + "case 0 5 9 1;case 0 20 4 1;thing 6 0 " + size + " 0 0;", size <= 4 ? 3 : -1);
                opened("SIZE " + size + " changed over", PERSON + "case 0 5 9 1;case 0 7 4 1;thing 6 0 " + size + " 0 0;thing 2 0 4 0 1;",
                    size <= 4 ? 3 : -1);
                opened("SIZE " + size + " with 1", PERSON + "case 0 5 5 1;case 0 20 5 1;thing 4 0 5 0 0;thing 2 0 0 0 0;thing 2 0 " + (size - 1)
                    + " 0 1;", 3);
            }
            for (String kind : Model.KINDS) {
                String thing = kind + " 6 0 1 0 0" + (kind.equals("coat") ? " 9;" : ";");
                String person = "person 9 9 0;";
                opened(kind + " on BOARD", person + "case 0 5 9 1;case 0 6 9 1 board;" + thing, kind.equals("sharp") ? -1 : 3);
                opened(kind + " not on BOARD", person + "case 0 5 9 1;case 0 6 9 1;" + thing, 3);
                opened(kind + " by a third", person + "case 0 5 9 1;case 0 6 9 1 board;case 0 6 9 9;" + thing, kind.equals("sharp") ? 5 : 3);
            }
            // What is in all five must go round.
            opened("all five", PERSON + "case 0 1 9 9;case 0 2 9 9;case 0 3 9 9;case 0 4 9 9;case 0 5 9 9;"
                + "thing 5 0 0 0 0;thing 1 0 0 0 1;thing 2 0 0 0 2;thing 3 0 0 0 3;thing 4 0 0 0 4;", 31);
            opened("all five but for a pound", PERSON + "case 0 1 9 9;case 0 2 9 9;case 0 3 9 9;case 0 4 9 9;case 0 4 9 9;"
                + "thing 5 0 0 0 0;thing 1 0 0 0 1;thing 2 0 0 0 2;thing 3 0 0 0 3;thing 4 0 0 0 4;", -1);
            // Eight THINGS that fit in one way only.
            String eight = "thing 8 0 1 0 0;thing 7 0 1 0 0;thing 6 0 1 0 0;thing 5 0 1 0 0;thing 4 0 1 0 0;thing 3 0 1 0 0;thing 2 0 1 0 0;"
                + "thing 1 0 1 0 0;";
            opened("eight", PERSON + "case 0 21 8 1;case 0 7 1 1;case 0 8 1 1;" + eight, 7);
            opened("eight", PERSON + "case 0 20 8 1;case 0 7 1 1;case 0 8 1 1;" + eight, -1);
        });
        Edge.of(15, "so that no CASE at all is OVER", () -> {
            for (int weight = 4; weight <= 7; weight++) {
                opened("WEIGHT " + weight, PERSON + "case 0 5 9 1;case 0 6 9 1;case 0 3 9 1;thing " + weight + " 0 0 0 0;",
                    weight <= 5 ? 0 : weight == 6 ? 3 : -1);
                // One more is OVER, and nothing can be done for it.
                opened("another OVER", PERSON + "case 0 5 9 1;case 0 6 9 1;case 0 3 9 1;thing " + weight + " 0 0 0 0;thing 60 0 0 0 2;", -1);
                // One more is OVER, and all three have to be opened.
                opened("another OVER", PERSON + "case 0 5 9 1;case 0 11 9 1;case 0 3 9 1;thing " + weight + " 0 0 0 0;thing 4 0 0 0 2;",
                    weight <= 5 ? 6 : weight <= 7 ? 7 : -1);
            }
        });
        Edge.of(15, "(0: all GO); NONE: none; -2: SPENT.", () -> {
            opened("no CASES", PERSON, 0);
            opened("all GO", PERSON + "case 0 5 9 1;case 0 0 9 1;thing 5 0 0 0 0;", 0);
            opened("one is OVER", PERSON + "case 0 4 9 1;case 0 0 9 1;thing 5 0 0 0 0;", -1);
            opened("one is OVER", PERSON + "case 0 4 9 1;case 0 5 9 1;thing 5 0 0 0 0;", 3);
            opened("nine", PERSON + "case 0 4 9 1;case 0 5 9 1;thing 5 0 0 0 0;" + "thing 0 0 0 0 0;".repeat(8), -2);
        });
    }

    private static void coats() {
        Edge.of(15, "and coats from them on the owners of these CASES besides (by what they wear already)", () -> {
            for (int heat = 1; heat <= 9; heat++) {
                String coat = "coat 6 0 0 0 0 " + heat + ";";
                opened("HEAT " + heat, "person 9 9 5;case 0 5 9 1;" + coat, heat <= 5 ? 1 : -1);
                opened("HEAT " + heat + " twice", "person 9 9 9;case 0 5 9 1;" + coat + "coat 6 0 0 0 0 4;", heat <= 5 ? 1 : -1);
                PoundsOver worn = Check.told("person 9 9 9;case 0 5 9 1;case 0 9 9 9;" + coat + "coat 1 0 0 0 1 4;");
                Check.due("HEAT " + heat + " with nothing worn", worn.opened(), 1);
                worn.shift(1, 10);
                Check.due("HEAT " + heat + " with 4 worn", worn.opened(), heat <= 5 ? 1 : 3);
                // On the other owner, who has to have a CASE in the set.
                opened("HEAT " + heat + " on another", "person 9 9 0;person 9 9 5;case 0 5 9 1;case 1 0 0 2;" + coat, heat <= 5 ? 3 : -1);
                opened("HEAT " + heat + " on nobody", "person 9 9 0;person 9 9 9;case 0 5 9 1;case 0 0 0 2;" + coat, -1);
            }
            for (String kind : Model.KINDS) {
                boolean coat = kind.equals("coat");
                opened(kind + " on a PERSON", "person 9 9 9;case 0 5 9 1;" + kind + " 6 0 0 0 0" + (coat ? " 9;" : ";"), coat ? 1 : -1);
            }
            for (int owner = 0; owner < 4; owner++) {
                for (int bears = 0; bears < 4; bears++) {
                    StringBuilder people = new StringBuilder();
                    for (int p = 0; p < 4; p++) {
                        people.append("person 9 9 ").append(p == bears ? 9 : 0).append(';');
                    }
                    opened(bears + " bears it, of " + owner, people + "case " + owner + " 5 9 1;coat 6 0 0 0 0 9;", owner == bears ? 1 : -1);
                }
            }
            // A coat of a CASE outside of the set stays there.
            opened("outside", "person 9 9 9;case 0 5 9 1;case 0 9 9 9;thing 6 0 0 0 0;coat 4 0 0 0 1 1;", 3);
            opened("outside", "person 9 9 9;case 0 5 9 1;case 0 9 9 9;thing 6 0 0 0 0;coat 4 0 0 0 0 1;thing 9 0 0 0 1;", -1);
            // Two owners, each with as much as he bears.
            opened("two owners", "person 9 9 4;person 9 9 5;case 0 0 9 1;case 1 0 9 1;coat 6 0 0 0 0 5;coat 6 0 0 0 0 4;", 3);
            opened("two owners", "person 9 9 4;person 9 9 4;case 0 0 9 1;case 1 0 9 1;coat 6 0 0 0 0 5;coat 6 0 0 0 0 4;", -1);
            opened("four owners", "person 9 9 1;person 9 9 2;person 9 9 3;person 9 9 4;case 0 0 9 1;case 1 0 9 1;case 2 0 9 1;case 3 0 9 1;"
                + "coat 6 0 0 0 0 4;coat 6 0 0 0 0 1;coat 6 0 0 0 0 3;coat 6 0 0 0 0 2;", 15);
        });
    }

    private static void leastCosts() {
        Edge.of(15, "the set of least COSTS (of those that were opened already 0)", () -> {
            for (int cost = 0; cost <= 9; cost++) {
                String hall = PERSON + "case 0 5 9 3;case 0 6 9 " + cost + ";case 0 6 9 5;thing 6 0 0 0 0;coat 0 0 0 0 0 1;coat 0 0 0 0 1 1;"
                    + "coat 0 0 0 0 2 1;";
                opened("COST " + cost, hall, cost <= 5 ? 3 : 5);
                PoundsOver x = Check.told(hall);
                x.shift(3, 10);
                Check.due("with the third opened", x.opened(), cost == 0 ? 3 : 5);
                x.shift(2, 10);
                Check.due("with both opened", x.opened(), 3);
                x.undo();
                x.undo();
                x.shift(1, 10);
                Check.due("with the first opened", x.opened(), cost <= 5 ? 3 : 5);
                // One dear CASE or two cheap ones.
                opened("two of " + cost, PERSON + "case 0 3 9 0;case 0 6 9 9;case 0 3 9 " + cost + ";case 0 3 9 4;thing 3 0 0 0 0;thing 3 0 0 0 0;"
                    + "thing 3 0 0 0 0;", cost < 5 ? 13 : 3);
            }
            opened("the greatest COSTS", PERSON + "case 0 5 9 99;case 0 6 9 99;case 0 6 9 98;thing 6 0 0 0 0;", 5);
        });
        Edge.of(15, "of like ones the fewest CASES, then the least bits; none.", () -> {
            opened("fewer", PERSON + "case 0 3 9 0;case 0 3 9 4;case 0 3 9 5;case 0 6 9 9;thing 3 0 0 0 0;thing 3 0 0 0 0;thing 3 0 0 0 0;", 9);
            opened("fewer by COST 0", PERSON + "case 0 3 9 0;case 0 3 9 0;case 0 3 9 0;case 0 6 9 0;thing 3 0 0 0 0;thing 3 0 0 0 0;thing 3 0 0 0 0;", 9);
            opened("the least bits", PERSON + "case 0 5 9 1;case 0 6 9 1;case 0 6 9 1;case 0 6 9 1;thing 6 0 0 0 0;", 3);
            opened("the least bits", PERSON + "case 0 6 9 1;case 0 6 9 1;case 0 6 9 1;case 0 5 9 1;thing 6 0 0 0 3;", 9);
            opened("the least bits", PERSON + "case 0 0 9 1;case 0 6 9 2;case 0 6 9 2;case 0 5 9 1;thing 6 0 0 0 3;", 10);
            opened("no other", PERSON + "case 0 5 9 1;case 0 5 9 1;case 0 6 9 1;thing 6 0 0 0 0;", 5);
            opened("none", PERSON + "case 0 5 9 1;case 0 5 9 1;case 0 5 9 1;thing 6 0 0 0 0;", -1);
        });
    }

    private static void spent() {
        Edge.of(15, "SPENT: in the CASES of some set that is asked there are more than 8 THINGS, whatever else", () -> {
            for (int n : new int[] {1, 2, 7, 8, 9, 10, 12}) {
                String things = "thing 1 0 1 0 0;".repeat(n);
                String cases = PERSON + "case 0 " + (n - 1) + " 60 1;case 0 9 60 1;";
                opened(n + " THINGS", cases + things, n <= 8 ? 3 : -2);
                opened(n + " that GO", cases.replace("case 0 " + (n - 1), "case 0 " + n) + things, 0);
                if (n < 12) {
                    // Whatever is done with them, the other one stays OVER.
                    opened(n + " without hope", PERSON + "case 0 60 60 1;case 0 0 60 1;" + "thing 60 0 1 0 1;" + things, n <= 7 ? -1 : -2);
                    // Of nothing at all, and with a coat to wear in place of all that.
                    opened(n + " of nothing", PERSON + "case 0 5 60 1;coat 6 0 0 0 0 9;" + "thing 0 0 0 0 0;".repeat(n), n <= 7 ? 1 : -2);
                }
            }
            for (int n = 3; n <= 6; n++) {
                String both = PERSON + "case 0 3 60 1;case 0 99 60 1;" + "thing 1 0 0 0 0;".repeat(4) + "thing 1 0 0 0 1;".repeat(n);
                opened("4 and " + n, both, n <= 4 ? 3 : -2);
                PoundsOver x = Check.told(both);
                x.shift(4, 10);
                Check.due("4 and " + n + " but for one on a PERSON", x.opened(), n > 5 ? -2 : 3);
            }
        });
        Edge.of(15, "(sets by bits, the least first; those that can't be better than one that was found aren't asked)", () -> {
            String nine = "thing 0 0 0 0 2;".repeat(9);
            for (int cost = 0; cost <= 9; cost++) {
                // {0, 1} is found at 3 and 2; {2} with the nine is asked at 5 too, as it is one CASE.
                String hall = PERSON + "case 0 5 9 3;case 0 6 9 2;case 0 9 9 " + cost + ";thing 6 0 0 0 0;";
                opened("nine at " + cost, hall + nine, cost <= 5 ? -2 : 3);
                PoundsOver x = Check.told(hall + nine + "coat 0 0 0 0 2 1;");
                x.shift(10, 10);
                Check.due("nine that are opened", x.opened(), -2);
                // {0, 2} with the nine is as dear as {0, 1} if CASE 2 costs as much as CASE 1.
                opened("four and five at " + cost, PERSON + "case 0 5 9 3;case 0 6 9 4;case 0 9 9 " + cost + ";thing 6 0 0 0 0;"
                    + "thing 0 0 0 0 0;".repeat(3) + "thing 0 0 0 0 2;".repeat(5), cost < 4 ? -2 : 3);
            }
            // A set with the nine that comes first by its bits is asked, though a better one comes behind it.
            opened("asked first", PERSON + "case 0 5 9 0;case 0 99 9 9;case 0 99 9 1;thing 6 0 0 0 0;" + nine.replace("2;", "1;"), -2);
            opened("found first", PERSON + "case 0 5 9 0;case 0 99 9 1;case 0 99 9 9;thing 6 0 0 0 0;" + nine, 3);
            // With all that GO nothing else is asked.
            opened("nothing is OVER", PERSON + "case 0 6 9 0;case 0 9 9 0;case 0 9 9 0;thing 6 0 0 0 0;" + nine, 0);
        });
    }

    // ---- promises 16 and 17

    private static void cheap(String what, String hall, int want, int... fates) {
        PoundsOver x = Check.told(PERSON + hall);
        Check.due(what + ": cheap(0)", x.cheap(0), want);
        for (int t = 0; t < fates.length; t++) {
            Check.due(what + ": fate(" + t + ")", x.fate(t), fates[t]);
        }
        Check.due(what + ": nothing is shifted", x.count(7), 0);
    }

    private static void forOne() {
        Edge.of(16, "FOR ONE CASE each THING in it stays, is thrown away, or is posted, if it can be (PRICE each): the least of all that and its FEE, together", () -> {
            for (int value = 18; value <= 22; value++) {
                // The FEE is 20: a VALUE of 20 is as much, and it stays.
                cheap("VALUE " + value, "case 0 5 20 3;thing 7 0 2 " + value + " 0;", Math.min(20, value), value < 20 ? 1 : 0);
                cheap("PRICE " + value, "case 0 5 20 3;thing 7 0 2 999 0;post 7 " + value + ";", Math.min(20, value), value < 20 ? 2 : 0);
                // A POST that isn't enough is none.
                cheap("PRICE " + value, "case 0 5 20 3;thing 7 0 2 999 0;post 6 " + value + ";", 20, 0);
                cheap("PRICE " + value, "case 0 5 20 3;thing 7 0 2 999 0;post 6 1;post 7 " + value + ";post 8 0;", Math.min(20, value),
                    value < 20 ? 2 : 0);
            }
            for (int weight = 4; weight <= 8; weight++) {
                cheap("WEIGHT " + weight, "case 0 5 20 3;thing " + weight + " 0 2 15 0;", weight <= 5 ? 0 : weight == 6 ? 10 : 15, weight <= 6 ? 0 : 1);
                cheap("with a rule", "case 0 5 20 3;thing " + weight + " 0 2 15 0;fee 15-board;", weight <= 5 ? 0 : 15, 0);
                cheap("with a dearer rule", "case 0 5 20 3;thing " + weight + " 0 2 15 0;fee 16;", weight <= 5 ? 0 : 15, weight <= 5 ? 0 : 1);
            }
            // The FEE by how many stay, and by what they weigh.
            cheap("THINGS", "case 0 5 20 3;thing 6 0 2 400 0;thing 0 0 2 3 0;fee things*10;", 13, 0, 1);
            cheap("THINGS", "case 0 5 20 3;thing 6 0 2 400 0;thing 0 0 2 10 0;fee things*10;", 20, 0, 0);
            cheap("WEIGHT", "case 0 5 20 3;thing 6 0 2 400 0;thing 4 0 2 3 0;fee weight*10;", 63, 0, 1);
            cheap("more is less", "case 0 5 20 3;thing 6 0 2 400 0;thing 4 0 2 0 0;fee 90-things*40;", 10, 0, 0);
            cheap("nothing", "case 0 5 20 3;case 0 0 9 0;thing 60 0 2 400 1;", 0);
            String twelve = "case 0 11 60 3;" + "thing 1 0 2 9 0;".repeat(11) + "thing 1 0 2 8 0;";
            cheap("twelve", twelve, 8, 0, 0, 0, 0, 0, 0, 0, 0, 0, 0, 0, 1);
            cheap("all twelve", "case 0 0 60 3;" + "thing 60 0 2 9 0;".repeat(11) + "thing 60 0 2 9 0;post 60 8;", 96, 2, 2, 2, 2, 2, 2, 2, 2, 2, 2, 2, 2);
            cheap("the dearest", "case 0 0 60 3;" + "thing 60 0 2 999 0;".repeat(12) + "fee 9999;", 9999, 0, 0, 0, 0, 0, 0, 0, 0, 0, 0, 0, 0);
            cheap("the dearest but one", "case 0 0 60 3;" + "thing 60 0 2 833 0;".repeat(12) + "fee 9999;", 9996, 1, 1, 1, 1, 1, 1, 1, 1, 1, 1, 1, 1);
            PoundsOver other = Check.told(PERSON + "case 0 5 20 3;case 0 5 20 3;thing 7 0 2 4 1;thing 9 0 2 7 0;thing 9 0 2 5 0;");
            other.shift(2, 10);
            Check.due("cheap(1)", other.cheap(1), 4);
            Check.due("cheap(0) without what is elsewhere", other.cheap(0), 7);
        });
    }

    private static void rowsForOne() {
        Edge.of(16, "the first such row, by THINGS (stays ahead of thrown ahead of posted).", () -> {
            for (int price = 3; price <= 7; price++) {
                int way = price < 5 ? 2 : 1;
                cheap("PRICE " + price, "case 0 5 20 3;thing 7 0 2 5 0;post 9 " + price + ";", Math.min(5, price), way);
                cheap("PRICE " + price, "case 0 5 20 3;thing 7 0 2 5 0;thing 7 0 2 6 0;post 9 " + price + ";",
                    Math.min(5, price) + Math.min(6, price), way, price < 6 ? 2 : 1);
            }
            // Of three alike one may stay: the first.
            cheap("of three one stays", "case 0 6 20 3;thing 6 0 2 4 0;thing 6 0 2 4 0;thing 6 0 0 4 0;fee 50;", 8, 0, 1, 1);
            cheap("of three two stay", "case 0 12 20 3;thing 6 0 2 4 0;thing 6 0 2 4 0;thing 6 0 0 4 0;fee 50;", 4, 0, 0, 1);
            cheap("of three one stays by what it weighs", "case 0 6 20 3;thing 7 0 2 4 0;thing 6 0 2 4 0;thing 6 0 0 4 0;fee 50;", 8, 1, 0, 1);
            cheap("the first stays", "case 0 6 20 3;thing 6 0 2 5 0;thing 3 0 2 2 0;thing 3 0 0 3 0;fee 50;", 5, 0, 1, 1);
            cheap("nothing of no VALUE goes", "case 0 5 20 3;thing 0 0 2 0 0;thing 6 0 2 0 0;", 0, 0, 1);
            cheap("what is dearer to throw stays", "case 0 6 20 3;thing 6 0 2 4 0;thing 6 0 2 5 0;fee 50;", 4, 1, 0);
            // To stay comes first, and what becomes of the second then doesn't matter.
            cheap("stays, posted ahead of thrown, stays", "case 0 6 20 3;thing 6 0 2 4 0;thing 6 0 2 5 0;post 6 4;fee 50;", 4, 0, 2);
            cheap("stays, thrown ahead of posted, stays", "case 0 6 20 3;thing 6 0 2 5 0;thing 6 0 2 4 0;post 6 4;fee 50;", 4, 0, 1);
            // The last one's fate counts least: thrown away at 3 and posted at 3 are alike.
            cheap("like ones", "case 0 0 20 3;thing 6 0 2 3 0;thing 6 0 2 4 0;post 6 3;fee 50;", 6, 1, 2);
            cheap("as dear as the FEE", "case 0 0 20 3;thing 6 0 2 3 0;thing 6 0 2 4 0;post 6 3;fee 6;", 6, 0, 0);
            cheap("less than the FEE", "case 0 0 20 3;thing 6 0 2 3 0;thing 6 0 2 4 0;post 6 3;fee 7;", 6, 1, 2);
        });
        Edge.of(16, "the least; the row is kept.", () -> {
            PoundsOver x = Check.told(PERSON + "case 0 5 20 3;case 0 5 20 3;thing 7 0 2 4 0;thing 2 0 2 4 1;");
            Check.noSuch("fate(0) ahead", () -> x.fate(0));
            Check.due("cheap(0)", x.cheap(0), 4);
            Check.due("fate(0)", x.fate(0), 1);
            x.shift(0, 20);
            x.undo();
            x.two(0, 1);
            x.opened();
            x.share();
            x.best(0);
            x.counter(1, 9, 0);
            x.image();
            x.restore();
            Check.noSuch("cheap(2)", () -> x.cheap(2));
            Check.due("fate(0) is kept", x.fate(0), 1);
            Check.due("cheap(1)", x.cheap(1), 0);
            Check.noSuch("fate(0) is no more", () -> x.fate(0));
            Check.due("fate(1)", x.fate(1), 0);
        });
    }

    private static void fates() {
        Edge.of(17, "What becomes of a THING by the row that is kept: 0 it stays, 1 thrown away, 2 posted.", () -> {
            PoundsOver x = Check.told(PERSON + "case 0 5 20 3;thing 5 0 2 40 0;thing 6 0 2 4 0;thing 1 0 2 4 0;post 3 1;");
            Check.due("cheap(0)", x.cheap(0), 5);
            Check.due("fate(0)", x.fate(0), 0);
            Check.due("fate(1)", x.fate(1), 1);
            Check.due("fate(2)", x.fate(2), 2);
        });
        Edge.of(17, "NoSuchElementException: also none is kept, it wasn't in that CASE.", () -> {
            PoundsOver x = Check.told(PERSON + "case 0 5 20 3;case 0 5 20 3;thing 5 0 2 40 0;thing 1 0 2 4 1;thing 1 0 2 4 0;thing 1 0 2 4 0;");
            for (int t = -1; t <= 4; t++) {
                int thing = t;
                Check.noSuch("fate(" + t + ") with none kept", () -> x.fate(thing));
            }
            x.shift(2, 10);
            x.cheap(0);
            boolean[] in = {true, false, false, true};
            for (int t = 0; t < 4; t++) {
                int thing = t;
                if (in[t]) {
                    Check.due("fate(" + t + ")", x.fate(t) >= 0, true);
                } else {
                    Check.noSuch("fate(" + t + ")", () -> x.fate(thing));
                }
            }
            x.shift(2, 0);
            Check.noSuch("fate(2), which came behind that", () -> x.fate(2));
            x.shift(0, 20);
            Check.due("fate(0), which went behind that", x.fate(0), 0);
            x.shift(1, 20);
            x.cheap(1);
            for (int t = 0; t < 4; t++) {
                int thing = t;
                Check.noSuch("fate(" + t + ") of an empty CASE", () -> x.fate(thing));
            }
            Check.noSuch("fate(-1)", () -> x.fate(-1));
            Check.noSuch("fate(4)", () -> x.fate(4));
        });
    }
}
