/** The boundaries of where a THING may come, of ACTS, THE BILL and LAWFUL: promises 9 to 13. */
final class PlaceEdges {
    private static final int[] ALL_PLACES = {0, 1, 2, 3, 4, 10, 11, 12, 13, 20, 21, 22};
    private static final int[] NO_PLACES = {Integer.MIN_VALUE, -23, -10, -2, -1, 5, 6, 9, 14, 15, 19, 23, 24, 100, Integer.MAX_VALUE - 9,
        Integer.MAX_VALUE};
    private static final String FOUR = "person 60 9 30;person 60 9 30;person 60 9 30;person 60 9 30;";
    private static final String FIVE = "case 0 20 20 7;case 1 20 20 7;case 2 20 20 7;case 3 20 20 7;case 0 20 20 7;";

    private PlaceEdges() {
    }

    static void all() {
        places();
        intoCases();
        onPeople();
        outOfAll();
        shifts();
        acts();
        bills();
        lawful();
    }

    private static void may(PoundsOver x, int thing, int place, boolean want) {
        Check.due("may(" + thing + ", " + place + ")", x.may(thing, place), want);
        if (!want) {
            int from = x.thing(thing, 5);
            int refused = x.count(11);
            int acts = x.count(7);
            Check.due("shift(" + thing + ", " + place + ")", x.shift(thing, place), -1);
            Check.due("its PLACE", x.thing(thing, 5), from);
            Check.due("STATUS 1", x.count(11), refused + 1);
            Check.due("ACTS", x.count(7), acts);
        } else {
            int from = x.thing(thing, 5);
            Check.due("shift(" + thing + ", " + place + ")", x.shift(thing, place), from);
            Check.due("its PLACE", x.thing(thing, 5), place);
            x.undo();
        }
    }

    // ---- promise 9

    private static void places() {
        Edge.of(9, "PLACES: 0 to 4 CASES, 10 to 13 on PEOPLE, 20 thrown away, 21 posted, 22 eaten.", () -> {
            PoundsOver x = Check.told(FOUR + FIVE + "food 1 0 1 1 0;post 9 9;");
            for (int place : ALL_PLACES) {
                may(x, 0, place, place != 0);
            }
            for (int place : NO_PLACES) {
                may(x, 0, place, false);
            }
            for (int people = 1; people <= 4; people++) {
                for (int cases = 1; cases <= 5; cases++) {
                    String text = FOUR.substring(0, 15 * people) + "case 0 20 20 7;".repeat(cases) + "food 1 0 1 1 0;post 9 9;";
                    PoundsOver y = Check.told(text);
                    for (int place : ALL_PLACES) {
                        boolean there = place < 10 ? place < cases : place >= 20 || place - 10 < people;
                        Check.due("may(0, " + place + ")", y.may(0, place), there && place != 0);
                    }
                }
            }
        });
        Edge.of(9, "0 to 4 CASES, 10 to 13 on PEOPLE", () -> {
            // What takes no room comes nowhere else either, also behind a HALL with more PEOPLE and CASES.
            for (int people = 1; people <= 4; people++) {
                for (int cases = 1; cases <= 5; cases++) {
                    String text = "person 60 9 30;".repeat(people) + "case 0 20 20 7;".repeat(cases) + "food 0 0 0 0 0;coat 0 0 0 0 0 1;post 9 9;";
                    PoundsOver x = Check.told(text);
                    onlyThere(x, people, cases);
                    Check.due("a greater HALL", Check.hall(x, FOUR + FIVE), 0);
                    Check.due("an empty HALL", Check.hall(x, ""), 0);
                    Check.due("the HALL again", Check.hall(x, text), 0);
                    onlyThere(x, people, cases);
                }
            }
        });
        Edge.of(9, "Whether a THING may come to a PLACE from where it is (not where it is already).", () -> {
            for (int from : new int[] {0, 1, 4, 10, 11, 13}) {
                PoundsOver x = Check.told(FOUR + FIVE + "food 1 0 1 1 0;coat 1 0 1 1 0 9;post 9 9;");
                for (int thing = 0; thing < 2; thing++) {
                    x.shift(thing, from);
                    for (int place : new int[] {0, 1, 4, 10, 11, 13, 20, 21}) {
                        may(x, thing, place, place != from);
                    }
                    may(x, thing, 22, thing == 0);
                }
            }
        });
    }

    private static void onlyThere(PoundsOver x, int people, int cases) {
        for (int place = -20; place <= 40; place++) {
            boolean there = place > 0 && place < cases || place >= 10 && place < 10 + people || place == 20 || place == 21;
            Check.due("may(0, " + place + ")", x.may(0, place), there || place == 22);
            Check.due("may(1, " + place + ")", x.may(1, place), there);
        }
    }

    private static void intoCases() {
        Edge.of(9, "A THING may come into a CASE, if SIZES together are no more than HOLDS then", () -> {
            for (int size = 0; size <= 20; size++) {
                PoundsOver x = Check.told("person 60 9 30;case 0 20 60 7;case 0 20 10 7;thing 1 0 " + size + " 1 0;thing 1 0 0 1 1;"
                    + "food 1 0 2 1 1;");
                may(x, 0, 1, size + 2 <= 10);
                x.shift(2, 10);
                may(x, 0, 1, size <= 10);
                x.shift(2, 22);
                may(x, 0, 1, size <= 10);
            }
            PoundsOver none = Check.told("person 60 9 30;case 0 20 60 7;case 0 20 0 7;thing 1 0 0 1 0;thing 1 0 1 1 0;");
            may(none, 0, 1, true);
            may(none, 1, 1, false);
            PoundsOver full = Check.told("person 60 9 30;case 0 20 60 7;case 0 20 60 7;" + "thing 1 0 20 1 1;".repeat(3)
                + "thing 1 0 0 1 0;coat 1 0 1 1 0 1;shirt 60 0 20 1 0;");
            may(full, 3, 1, true);
            may(full, 4, 1, false);
            may(full, 5, 1, false);
            full.shift(0, 20);
            may(full, 4, 1, true);
            may(full, 5, 1, true);
            full.shift(4, 1);
            may(full, 5, 1, false);
            // What it weighs doesn't count, nor from where it comes.
            full.shift(4, 10);
            may(full, 5, 1, true);
            may(full, 4, 0, true);
        });
        Edge.of(9, "and it isn't sharp in one for the BOARD", () -> {
            for (String kind : Model.KINDS) {
                PoundsOver x = Check.told("person 60 9 30;case 0 20 60 7;case 0 20 60 7 board;case 0 20 60 7;"
                    + kind + " 1 0 1 1 0" + (kind.equals("coat") ? " 1;" : ";"));
                may(x, 0, 1, !kind.equals("sharp"));
                may(x, 0, 2, true);
                x.shift(0, 10);
                may(x, 0, 1, !kind.equals("sharp"));
                may(x, 0, 0, true);
            }
        });
    }

    private static void onPeople() {
        Edge.of(9, "on a PERSON, if it is a coat (HEAT together no more than one bears)", () -> {
            for (int bears = 0; bears <= 10; bears++) {
                PoundsOver x = Check.told("person 60 0 " + bears + ";case 0 20 60 7;coat 1 0 3 1 0 4;coat 1 0 20 1 0 5;coat 60 0 0 1 0 1;");
                may(x, 0, 10, bears >= 4);
                may(x, 1, 10, bears >= 5);
                may(x, 2, 10, bears >= 1);
                if (x.shift(0, 10) == 0) {
                    may(x, 1, 10, bears >= 9);
                    may(x, 2, 10, bears >= 5);
                    if (x.shift(1, 10) == 0) {
                        may(x, 2, 10, bears >= 10);
                    }
                    x.shift(0, 20);
                    may(x, 2, 10, bears >= 1);
                }
            }
            PoundsOver most = Check.told("person 60 0 30;person 60 0 29;case 0 20 60 7;" + "coat 1 0 3 1 0 9;".repeat(3) + "coat 1 0 3 1 0 3;"
                + "coat 1 0 3 1 0 1;");
            for (int p = 10; p <= 11; p++) {
                for (int t = 0; t < 3; t++) {
                    Check.due("shift", comes(most, t, p), true);
                }
                may(most, 3, p, p == 10);
                may(most, 4, p, true);
                most.shift(4, p);
                may(most, 3, p, false);
                most.shift(4, 0);
                for (int t = 0; t < 3; t++) {
                    most.shift(t, 0);
                }
            }
            // A coat that is too hot stays outside, however small it is.
            PoundsOver hot = Check.told("person 60 9 3;case 0 20 60 7;coat 1 0 0 1 0 4;coat 1 0 2 1 0 3;coat 1 0 3 1 0 3;");
            may(hot, 0, 10, false);
            may(hot, 1, 10, true);
            may(hot, 2, 10, true);
        });
        Edge.of(9, "or of SIZE 2 or less (SIZES of those that aren't coats together no more than POCKETS)", () -> {
            for (String kind : new String[] {"thing", "sharp", "glass", "food", "shirt"}) {
                for (int size = 0; size <= 4; size++) {
                    PoundsOver x = Check.told("person 60 9 0;case 0 20 60 7;" + kind + " 60 0 " + size + " 1 0;");
                    may(x, 0, 10, size <= 2);
                }
            }
            for (int pockets = 0; pockets <= 6; pockets++) {
                PoundsOver x = Check.told("person 60 " + pockets + " 9;case 0 20 60 7;shirt 1 0 2 1 0;food 1 0 1 1 0;sharp 1 0 0 1 0;"
                    + "coat 1 0 20 1 0 9;glass 1 0 2 1 0;");
                may(x, 0, 10, pockets >= 2);
                may(x, 1, 10, pockets >= 1);
                may(x, 2, 10, true);
                x.shift(3, 10);
                may(x, 0, 10, pockets >= 2);
                may(x, 1, 10, pockets >= 1);
                if (x.shift(0, 10) == 0) {
                    may(x, 1, 10, pockets >= 3);
                    may(x, 2, 10, true);
                    may(x, 4, 10, pockets >= 4);
                    if (x.shift(1, 10) == 0) {
                        may(x, 4, 10, pockets >= 5);
                        may(x, 2, 10, true);
                    }
                }
            }
            PoundsOver nine = Check.told("person 60 9 9;person 60 9 9;case 0 20 60 7;" + "thing 1 0 2 1 0;".repeat(4) + "thing 1 0 1 1 0;"
                + "thing 1 0 1 1 0;");
            for (int t = 0; t < 4; t++) {
                nine.shift(t, 10);
            }
            may(nine, 4, 10, true);
            nine.shift(4, 10);
            Check.due("SIZES in POCKETS", nine.person(0, 4), 9);
            may(nine, 5, 10, false);
            may(nine, 5, 11, true);
            nine.shift(4, 11);
            may(nine, 5, 10, true);
        });
    }

    private static boolean comes(PoundsOver x, int thing, int place) {
        return x.shift(thing, place) != -1;
    }

    private static void outOfAll() {
        Edge.of(9, "be thrown away", () -> {
            for (String kind : Model.KINDS) {
                PoundsOver x = Check.told("person 60 9 9;case 0 20 60 7;" + kind + " 60 9 2 999 0" + (kind.equals("coat") ? " 1;" : ";"));
                may(x, 0, 20, true);
                x.shift(0, 10);
                may(x, 0, 20, true);
            }
        });
        Edge.of(9, "be posted, if its WEIGHT is no more than some POST's", () -> {
            for (int weight = 4; weight <= 11; weight++) {
                String thing = "person 60 9 9;case 0 20 60 7;thing " + weight + " 0 2 1 0;";
                may(Check.told(thing), 0, 21, false);
                may(Check.told(thing + "post 5 1;"), 0, 21, weight <= 5);
                may(Check.told(thing + "post 5 1;post 10 1;"), 0, 21, weight <= 10);
                may(Check.told(thing + "post 1 1;post 2 1;post 3 1;post 4 1;post 5 1;post 6 1;"), 0, 21, weight <= 6);
                may(Check.told(thing + "post 99 1;"), 0, 21, true);
                PoundsOver worn = Check.told(thing + "post 10 0;");
                worn.shift(0, 10);
                may(worn, 0, 21, weight <= 10);
            }
            may(Check.told("person 60 9 9;case 0 20 60 7;thing 0 0 2 1 0;post 1 1;"), 0, 21, true);
            may(Check.told("person 60 9 9;case 0 20 60 7;thing 60 9 2 1 0;post 60 1;"), 0, 21, true);
            may(Check.told("person 60 9 9;case 0 20 60 7;thing 60 9 2 1 0;post 59 1;"), 0, 21, false);
        });
        Edge.of(9, "be eaten, if it is food.", () -> {
            for (String kind : Model.KINDS) {
                PoundsOver x = Check.told("person 60 9 9;case 0 20 60 7;" + kind + " 1 0 2 1 0" + (kind.equals("coat") ? " 1;" : ";"));
                may(x, 0, 22, kind.equals("food"));
                x.shift(0, 10);
                may(x, 0, 22, kind.equals("food"));
            }
        });
        Edge.of(10, "From 20 to 22 nothing comes back (but UNDONE).", () -> {
            for (int gone = 20; gone <= 22; gone++) {
                for (int from : new int[] {0, 3, 12}) {
                    PoundsOver x = Check.told(FOUR + FIVE + "food 1 0 1 1 0;post 9 9;");
                    x.shift(0, from);
                    Check.due("shift(0, " + gone + ")", x.shift(0, gone), from);
                    for (int place : ALL_PLACES) {
                        may(x, 0, place, false);
                    }
                    Check.due("it stays at", x.thing(0, 5), gone);
                    Check.due("undo()", x.undo(), from == 0 ? 0 : 1);
                    Check.due("it is back at", x.thing(0, 5), from);
                    may(x, 0, 1, true);
                }
            }
        });
    }

    // ---- promises 10 and 11

    private static void shifts() {
        Edge.of(10, "SHIFTED: the PLACE where it was. NONE (STATUS 1): it may not.", () -> {
            PoundsOver x = Check.told(FOUR + FIVE + "food 1 0 1 1 4;post 9 9;");
            int[] way = {3, 10, 13, 0, 4, 11, 22};
            int from = 4;
            for (int place : way) {
                Check.due("shift(0, " + place + ")", x.shift(0, place), from);
                Check.due("shift(0, " + place + ") again", x.shift(0, place), -1);
                from = place;
            }
            Check.due("ACTS", x.count(7), 7);
            Check.due("STATUS 1", x.count(11), 7);
            for (int place : NO_PLACES) {
                Check.due("shift(0, " + place + ")", x.shift(0, place), -1);
            }
            Check.due("ACTS", x.count(7), 7);
            Check.due("STATUS 1", x.count(11), 7 + NO_PLACES.length);
        });
        Edge.of(10, "a THING is SHIFTED (each CASE from which or to which it is is opened, if it wasn't)", () -> {
            PoundsOver x = Check.told(FOUR + FIVE + "food 1 0 1 1 0;thing 1 0 1 1 4;post 9 9;");
            int[] things = {0, 0, 0, 0, 0, 0, 1, 1};
            int[] way = {10, 11, 3, 11, 0, 20, 13, 2};
            int[] opened = {1, 1, 9, 9, 9, 9, 25, 29};
            Check.due("opened at first", x.count(6), 0);
            for (int i = 0; i < way.length; i++) {
                Check.due("shift(" + things[i] + ", " + way[i] + ")", x.shift(things[i], way[i]) != -1, true);
                Check.due("opened", x.count(6), opened[i]);
                Check.due("refused", x.shift(things[i], 9), -1);
                Check.due("opened behind what was refused", x.count(6), opened[i]);
            }
            for (int gone = 20; gone <= 22; gone++) {
                PoundsOver y = Check.told(FOUR + FIVE + "food 1 0 1 1 3;post 9 9;");
                y.shift(0, gone);
                Check.due("opened by what goes to " + gone, y.count(6), 8);
            }
        });
    }

    private static void acts() {
        Edge.of(11, "ACTS (at most 40 are kept, the latest ones", () -> {
            for (int n : new int[] {0, 1, 2, 39, 40, 41, 42, 80, 81}) {
                PoundsOver x = Check.told(FOUR + FIVE + "food 1 0 1 1 0;thing 1 0 1 1 0;");
                for (int i = 0; i < n; i++) {
                    // The first ones are of the other THING.
                    Check.due("shift " + i, x.shift(i < 2 ? 1 : 0, i % 2 == 0 ? 1 : 0), i % 2);
                    Check.due("ACTS behind " + (i + 1), x.count(7), Math.min(40, i + 1));
                }
                int kept = Math.min(40, n);
                for (int i = 1; i <= kept; i++) {
                    Check.due("undo " + i + " of " + n, x.undo(), kept - i);
                    int at = n - i;
                    Check.due("PLACE behind it", x.thing(at < 2 ? 1 : 0, 5), at % 2);
                }
                Check.due("undo of none", x.undo(), -1);
                Check.due("PLACE of what can't be UNDONE", x.thing(1, 5), n == 41 ? 1 : 0);
                Check.due("opened by what can't be UNDONE", x.count(6), n > 40 ? 3 : 0);
            }
        });
        Edge.of(11, "what its call doesn't refuse is one, also where all is as it was", () -> {
            PoundsOver x = Check.told(FOUR + FIVE + "thing 0 0 0 0 0;food 1 0 9 1 0;");
            Check.due("a SHIFT of what is nothing", x.shift(0, 10), 0);
            Check.due("ACTS", x.count(7), 1);
            Check.due("back", x.shift(0, 0), 10);
            Check.due("ACTS", x.count(7), 2);
            Check.due("refused", x.shift(0, 0), -1);
            Check.due("refused", x.shift(1, 10), -1);
            Check.due("refused", x.shift(0, 22), -1);
            Check.due("refused", x.shift(0, 21), -1);
            Check.due("ACTS", x.count(7), 2);
            Check.due("may(0, 1)", x.may(0, 1), true);
            Check.due("may is none", x.count(7), 2);
            x.see(0, 1);
            x.image();
            x.restore();
            Check.due("see, image, restore are none", x.count(7), 2);
            Check.due("undo()", x.undo(), 1);
            Check.due("PLACE", x.thing(0, 5), 10);
            Check.due("undo()", x.undo(), 0);
            Check.due("PLACE", x.thing(0, 5), 0);
        });
        Edge.of(11, "They are UNDONE, the last one first; what was opened ahead of it is opened then.", () -> {
            PoundsOver x = Check.told(FOUR + FIVE + "food 1 0 1 1 0;coat 1 0 1 1 2 1;");
            int[][] acts = {{0, 10}, {1, 3}, {0, 1}, {0, 2}, {1, 20}, {0, 22}};
            int[] opened = {0, 1, 13, 15, 15, 15, 15};
            int[][] places = {{0, 2}, {10, 2}, {10, 3}, {1, 3}, {2, 3}, {2, 20}, {22, 20}};
            for (int[] act : acts) {
                x.shift(act[0], act[1]);
            }
            for (int i = 6; i >= 0; i--) {
                Check.due("opened behind " + i, x.count(6), opened[i]);
                Check.due("PLACE of 0 behind " + i, x.thing(0, 5), places[i][0]);
                Check.due("PLACE of 1 behind " + i, x.thing(1, 5), places[i][1]);
                Check.due("ACTS behind " + i, x.count(7), i);
                Check.due("undo()", x.undo(), i - 1);
            }
            // What is UNDONE may be SHIFTED again, and counts again.
            Check.due("shift(0, 10)", x.shift(0, 10), 0);
            Check.due("ACTS", x.count(7), 1);
            Check.due("undo()", x.undo(), 0);
        });
        Edge.of(11, "The last ACT is UNDONE: how many are left. NONE: there is none.", () -> {
            PoundsOver x = Check.told(FOUR + FIVE + "food 1 0 1 1 0;");
            Check.due("undo()", x.undo(), -1);
            x.shift(0, 1);
            Check.due("undo()", x.undo(), 0);
            Check.due("undo()", x.undo(), -1);
            Check.due("undo()", x.undo(), -1);
            Check.due("STATUS 1", x.count(11), 0);
            Check.due("PLACE", x.thing(0, 5), 0);
            x.shift(0, 1);
            x.shift(0, 2);
            Check.due("undo()", x.undo(), 1);
            Check.due("undo()", x.undo(), 0);
        });
    }

    // ---- promises 12 and 13

    private static void bills() {
        Edge.of(12, "THE BILL: FEES of all CASES, COSTS of those that were opened", () -> {
            PoundsOver x = Check.told("person 1 9 9;case 0 9 9 1;case 0 9 9 2;case 0 9 9 4;case 0 9 9 8;case 0 9 9 16;"
                + "food 10 0 1 1 0;thing 11 0 1 1 4;thing 9 0 1 1 2;food 0 0 0 0 0;");
            Check.due("FEES", x.bill(), 30);
            int[] way = {1, 2, 3, 4, 10, 22};
            int[] costs = {3, 7, 15, 31, 31, 31};
            for (int i = 0; i < way.length; i++) {
                x.shift(3, way[i]);
                Check.due("COSTS behind " + way[i], x.bill(), 30 + costs[i]);
            }
            x.shift(0, 22);
            Check.due("one FEE less", x.bill(), 20 + 31);
            x.shift(1, 0);
            Check.due("the same FEE in another CASE", x.bill(), 20 + 31);
            for (int i = 0; i < 8; i++) {
                x.undo();
            }
            Check.due("all UNDONE", x.bill(), 30);
        });
        Edge.of(12, "PRICES of what was posted (of the first POST that is enough), VALUES of what was thrown away.", () -> {
            for (int weight = 4; weight <= 10; weight++) {
                PoundsOver x = Check.told("person 1 9 9;case 0 60 9 0;food " + weight + " 0 1 700 0;thing 1 0 1 50 0;"
                    + "post 5 100;post 6 10;post 10 1;");
                Check.due("nothing is gone", x.bill(), 0);
                x.shift(0, 21);
                int price = weight <= 5 ? 100 : weight == 6 ? 10 : 1;
                Check.due("posted of " + weight, x.bill(), price);
                x.shift(1, 20);
                Check.due("and thrown away", x.bill(), price + 50);
                x.undo();
                x.shift(1, 21);
                Check.due("both posted", x.bill(), price + 100);
                x.undo();
                x.undo();
                x.shift(0, 20);
                Check.due("thrown away", x.bill(), 700);
                x.undo();
                x.shift(0, 22);
                Check.due("eaten", x.bill(), 0);
                x.undo();
                x.shift(0, 10);
                Check.due("on a PERSON", x.bill(), 0);
            }
            PoundsOver all = Check.told("person 1 9 9;case 0 60 60 0;" + "thing 0 0 0 999 0;".repeat(12) + "post 1 999;");
            for (int t = 0; t < 12; t++) {
                all.shift(t, t % 2 == 0 ? 20 : 21);
                Check.due("bill() behind " + t, all.bill(), 999 * (t + 1));
            }
        });
    }

    private static void lawful() {
        Edge.of(13, "LAWFUL it is (0), if no CASE is OVER", () -> {
            for (int weight = 19; weight <= 22; weight++) {
                for (int c = 0; c < 5; c++) {
                    PoundsOver x = Check.told("person 1 9 9;" + "case 0 20 9 0;".repeat(5) + "thing " + weight + " 0 1 1 " + c + ";");
                    Check.due("lawful() of " + weight + " in " + c, x.lawful(), weight > 20 ? 20 + c : 0);
                }
            }
        });
        Edge.of(13, "and each glass that is in a CASE has a coat or a shirt with it there", () -> {
            for (String kind : Model.KINDS) {
                String with = kind + " 0 0 2 1 1" + (kind.equals("coat") ? " 1;" : ";");
                boolean soft = kind.equals("coat") || kind.equals("shirt");
                PoundsOver x = Check.told("person 1 9 9;case 0 9 9 0;case 0 9 9 0;glass 1 0 1 1 1;" + with);
                Check.due("lawful() with a " + kind, x.lawful(), soft ? 0 : 11);
                x.shift(1, 0);
                Check.due("lawful() with a " + kind + " elsewhere", x.lawful(), kind.equals("glass") ? 10 : 11);
                x.shift(1, 10);
                Check.due("lawful() with a " + kind + " on a PERSON", x.lawful(), 11);
                x.shift(0, 10);
                Check.due("lawful() with the glass on a PERSON", x.lawful(), 0);
                x.undo();
                x.shift(0, 20);
                Check.due("lawful() without the glass", x.lawful(), 0);
            }
            PoundsOver two = Check.told("person 1 9 9;case 0 9 9 0;glass 1 0 1 1 0;glass 1 0 1 1 0;shirt 1 0 1 1 0;");
            Check.due("one shirt for two", two.lawful(), 0);
            two.shift(2, 20);
            Check.due("none for two", two.lawful(), 10);
        });
        Edge.of(13, "else 20 and the least CASE that is OVER; if none is, 10 and the least CASE with a glass without.", () -> {
            for (int c = 0; c < 5; c++) {
                for (int d = 0; d < 5; d++) {
                    PoundsOver x = Check.told("person 1 9 9;" + "case 0 9 9 0;".repeat(5) + "glass 9 0 1 1 " + c + ";glass 9 0 1 1 " + d
                        + ";food 0 0 0 0 0;");
                    boolean over = c == d;
                    Check.due("glass in " + c + " and " + d, x.lawful(), over ? 20 + c : 10 + Math.min(c, d));
                    PoundsOver y = Check.told("person 1 9 9;" + "case 0 9 9 0;".repeat(5) + "glass 10 0 1 1 " + c + ";glass 9 0 1 1 " + d
                        + ";shirt 0 0 0 0 " + c + ";");
                    Check.due("OVER in " + c + ", glass in " + d, y.lawful(), 20 + c);
                    PoundsOver z = Check.told("person 1 9 9;" + "case 0 9 9 0;".repeat(5) + "thing 10 0 1 1 " + c + ";thing 10 0 1 1 " + d + ";");
                    Check.due("OVER in " + c + " and " + d, z.lawful(), 20 + Math.min(c, d));
                    PoundsOver s = Check.told("person 1 9 9;" + "case 0 9 9 0;".repeat(5) + "glass 4 0 1 1 " + c + ";glass 4 0 1 1 " + d
                        + ";coat 0 0 0 0 " + c + " 1;");
                    Check.due("a coat in " + c + ", glass in " + d, s.lawful(), over ? 0 : 10 + d);
                }
            }
        });
    }
}
