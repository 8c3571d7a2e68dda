/** The boundaries of what is LOST, worn, CARRIED and looked at: promises 20 to 25. */
final class PeopleEdges {
    private PeopleEdges() {
    }

    static void all() {
        lost();
        wearPounds();
        wearHeat();
        wearWhich();
        share();
        carriers();
        look();
    }

    // ---- promises 20 and 21

    private static void lost() {
        String hall = "person 9 9 9;person 9 9 9;case 0 9 9 9;case 0 9 9 9;case 1 9 9 9;case 1 9 9 9;case 0 9 9 9;shirt 1 0 1 1 0;shirt 1 0 1 1 2;";
        Edge.of(20, "LOST is one CASE: who has one now, but not without that CASE, as bits", () -> {
            // Where the two shirts are, and who is without one by each of the five CASES.
            int[][] rows = {{0, 2, 1, 0, 2, 0, 0}, {1, 2, 0, 1, 2, 0, 0}, {4, 3, 0, 0, 0, 2, 1}, {4, 4, 0, 0, 0, 0, 1}, {0, 0, 1, 0, 0, 0, 0},
                {0, 1, 0, 0, 0, 0, 0}, {0, 10, 0, 0, 0, 0, 0}, {0, 11, 1, 0, 0, 0, 0}, {2, 11, 0, 0, 0, 0, 0}, {10, 11, 0, 0, 0, 0, 0},
                {20, 3, 0, 0, 0, 2, 0}, {20, 20, 0, 0, 0, 0, 0}, {2, 3, 0, 0, 0, 0, 0}, {3, 3, 0, 0, 0, 2, 0}};
            for (int[] row : rows) {
                PoundsOver x = Check.told(hall);
                x.shift(0, row[0]);
                x.shift(1, row[1]);
                int safe = 0;
                for (int c = 0; c < 5; c++) {
                    Check.due("lost(" + c + ") with shirts at " + row[0] + ", " + row[1], x.lost(c), row[2 + c]);
                    safe |= row[2 + c] == 0 ? 1 << c : 0;
                }
                Check.due("safe() with shirts at " + row[0] + ", " + row[1], x.safe(), safe);
            }
            PoundsOver four = Check.told("person 9 9 9;".repeat(4) + "case 0 9 9 9;case 1 9 9 9;case 2 9 9 9;case 3 9 9 9;"
                + "shirt 1 0 1 1 0;shirt 1 0 1 1 1;shirt 1 0 1 1 2;shirt 1 0 1 1 3;");
            for (int c = 0; c < 4; c++) {
                Check.due("lost(" + c + ") of four", four.lost(c), 1 << c);
            }
            for (String kind : Model.KINDS) {
                PoundsOver x = Check.told("person 9 9 9;case 0 9 9 9;" + kind + " 1 0 1 1 0" + (kind.equals("coat") ? " 1;" : ";"));
                Check.due("lost(0) with a " + kind, x.lost(0), kind.equals("shirt") ? 1 : 0);
            }
        });
        Edge.of(20, "LOST: who has no shirt.", () -> {
            PoundsOver x = Check.told(hall);
            Check.due("lost(0)", x.lost(0), 1);
            Check.due("lost(1)", x.lost(1), 0);
            FactEdges.indices("lost", x, 5, PoundsOver::lost);
            x.shift(0, 20);
            // Who has none now isn't without one by that CASE.
            Check.due("lost(0) of who has none", x.lost(0), 0);
            Check.due("lost(2)", x.lost(2), 2);
            Check.due("nothing is lost by it", x.person(1, 5), 1);
        });
        Edge.of(21, "LOST: which CASES may be.", () -> {
            for (int c = 0; c < 5; c++) {
                PoundsOver x = Check.told("person 9 9 9;" + "case 0 9 9 9;".repeat(5) + "shirt 1 0 1 1 " + c + ";");
                Check.due("safe() with the only shirt in " + c, x.safe(), 31 - (1 << c));
                x.shift(0, 10);
                Check.due("safe() with it on him", x.safe(), 31);
            }
            Check.due("safe() of nothing", new PoundsOver().safe(), 0);
        });
        Edge.of(21, "CASES that may be lost (nobody is without by that), as bits.", () -> {
            PoundsOver x = Check.told(hall);
            Check.due("safe()", x.safe(), 31 - 1 - 4);
            x.shift(0, 1);
            Check.due("safe()", x.safe(), 31 - 2 - 4);
            x.shift(1, 1);
            Check.due("two in one", x.safe(), 31 - 2);
            x.shift(0, 4);
            Check.due("one in each of his", x.safe(), 31);
            x.shift(1, 11);
            Check.due("one on another", x.safe(), 31 - 16);
            x.shift(0, 20);
            Check.due("none but on a PERSON", x.safe(), 31);
            Check.due("without CASES", Check.told("person 1 1 1;").safe(), 0);
            Check.due("without shirts", Check.told("person 1 1 1;case 0 1 1 1;").safe(), 1);
            Check.due("with the only one", Check.told("person 1 1 1;case 0 1 1 1;shirt 0 0 0 0 0;").safe(), 0);
        });
    }

    // ---- promise 22

    private static void wear(String what, PoundsOver x, int person, int pounds, int heat, int bits) {
        Check.due(what + ": wear(" + person + ", " + pounds + ", false)", x.wear(person, pounds, false), heat);
        Check.due(what + ": wear(" + person + ", " + pounds + ", true)", x.wear(person, pounds, true), bits);
        Check.due(what + ": nothing is shifted", x.count(7), 0);
    }

    private static void wearPounds() {
        Edge.of(22, "so that these weigh so many pounds (0 to 200) or more, together", () -> {
            PoundsOver x = Check.told("person 9 9 30;case 0 9 60 9;coat 60 0 0 0 0 1;coat 60 0 0 0 0 2;coat 60 0 0 0 0 3;coat 20 9 0 0 0 4;");
            int[] pounds = {0, 1, 20, 59, 60, 61, 80, 119, 120, 121, 139, 140, 141, 179, 180, 181, 199, 200};
            int[] heat = {0, 1, 1, 1, 1, 3, 3, 3, 3, 6, 6, 6, 6, 6, 6, 10, 10, 10};
            int[] bits = {0, 1, 1, 1, 1, 3, 3, 3, 3, 7, 7, 7, 7, 7, 7, 15, 15, 15};
            for (int i = 0; i < pounds.length; i++) {
                wear("all that he has", x, 0, pounds[i], heat[i], bits[i]);
            }
            for (int last = 18; last <= 22; last++) {
                PoundsOver y = Check.told("person 9 9 30;case 0 9 60 9;" + "coat 60 0 0 0 0 1;".repeat(3) + "coat " + last + " 0 0 0 0 1;");
                wear("180 and " + last, y, 0, 200, last >= 20 ? 4 : -1, last >= 20 ? 15 : -1);
                wear("180 and " + last, y, 0, 199, last >= 19 ? 4 : -1, last >= 19 ? 15 : -1);
            }
            PoundsOver none = Check.told("person 9 9 0;case 0 9 60 9;");
            wear("nothing for 0", none, 0, 0, 0, 0);
            wear("nothing for 1", none, 0, 1, -1, -1);
            PoundsOver all = Check.told("person 9 9 30;case 0 9 60 9;" + "coat 17 0 0 0 0 2;".repeat(12));
            wear("twelve", all, 0, 200, 24, 4095);
        });
        Edge.of(22, "IllegalArgumentException (behind NoSuchElementException): pounds.", () -> {
            PoundsOver x = Check.told("person 9 9 30;case 0 9 60 9;coat 60 0 0 0 0 1;");
            for (int pounds : new int[] {-1, -2, 201, 202, Integer.MIN_VALUE, Integer.MAX_VALUE}) {
                Check.illegal("wear(0, " + pounds + ", true)", () -> x.wear(0, pounds, true));
                Check.illegal("wear(0, " + pounds + ", false)", () -> x.wear(0, pounds, false));
                Check.noSuch("wear(1, " + pounds + ", true)", () -> x.wear(1, pounds, true));
                Check.noSuch("wear(-1, " + pounds + ", false)", () -> x.wear(-1, pounds, false));
            }
            wear("at 0", x, 0, 0, 0, 0);
            wear("at 1", x, 0, 1, 1, 1);
            wear("at 199", x, 0, 199, -1, -1);
            wear("at 200", x, 0, 200, -1, -1);
        });
    }

    private static void wearHeat() {
        Edge.of(22, "TO WEAR: the least HEAT (bits false), THINGS (true); NONE: none.", () -> {
            PoundsOver x = Check.told("person 9 9 5;case 0 9 60 9;thing 9 0 0 0 0;coat 5 0 0 0 0 3;coat 6 0 0 0 0 2;coat 7 0 0 0 0 1;");
            int[] pounds = {0, 1, 7, 8, 13, 14, 200};
            int[] heat = {0, 1, 1, 3, 3, -1, -1};
            int[] bits = {0, 8, 8, 12, 12, -1, -1};
            for (int i = 0; i < pounds.length; i++) {
                wear("what is answered", x, 0, pounds[i], heat[i], bits[i]);
            }
        });
        Edge.of(22, "none (what one bears counts).", () -> {
            for (int bears = 0; bears <= 12; bears++) {
                String coats = "case 0 9 60 9;coat 5 0 0 0 0 4;coat 6 0 0 0 0 6;";
                PoundsOver x = Check.told("person 9 9 " + bears + ";" + coats);
                wear("bears " + bears, x, 0, 0, 0, 0);
                wear("bears " + bears, x, 0, 5, bears >= 4 ? 4 : -1, bears >= 4 ? 1 : -1);
                wear("bears " + bears, x, 0, 6, bears >= 6 ? 6 : -1, bears >= 6 ? 2 : -1);
                wear("bears " + bears, x, 0, 7, bears >= 10 ? 10 : -1, bears >= 10 ? 3 : -1);
                wear("bears " + bears, x, 0, 12, -1, -1);
            }
        });
        Edge.of(22, "coats in a PERSON's own CASES put on besides what is worn", () -> {
            for (int bears = 4; bears <= 12; bears++) {
                PoundsOver x = Check.told("person 9 9 " + bears + ";case 0 9 60 9;coat 50 0 0 0 0 4;coat 6 0 0 0 0 6;");
                Check.due("shift(0, 10)", x.shift(0, 10), 0);
                // What is worn counts by its HEAT, not by what it weighs.
                Check.due("bears " + bears + ", 6 pounds", x.wear(0, 6, false), bears >= 10 ? 6 : -1);
                Check.due("bears " + bears + ", 6 pounds", x.wear(0, 6, true), bears >= 10 ? 2 : -1);
                Check.due("bears " + bears + ", 7 pounds", x.wear(0, 7, true), -1);
                Check.due("bears " + bears + ", 0 pounds", x.wear(0, 0, true), 0);
                Check.due("bears " + bears + ", 0 pounds", x.wear(0, 0, false), 0);
            }
            PoundsOver own = Check.told("person 9 9 30;person 9 9 30;case 0 9 60 9;case 1 9 60 9;case 0 9 60 9;coat 5 0 0 0 0 1;coat 6 0 0 0 1 1;"
                + "coat 7 0 0 0 2 1;coat 8 0 0 0 2 1;");
            wear("in two CASES", own, 0, 20, 3, 13);
            wear("in two CASES", own, 0, 21, -1, -1);
            wear("in another's CASE", own, 1, 6, 1, 2);
            wear("in another's CASE", own, 1, 7, -1, -1);
            own.shift(3, 11);
            Check.due("on another", own.wear(0, 12, true), 5);
            Check.due("on another", own.wear(0, 13, true), -1);
            Check.due("worn by him", own.wear(1, 7, true), -1);
            own.shift(2, 20);
            Check.due("thrown away", own.wear(0, 5, true), 1);
            Check.due("thrown away", own.wear(0, 6, true), -1);
            for (String kind : Model.KINDS) {
                PoundsOver x = Check.told("person 9 9 9;case 0 9 9 9;" + kind + " 5 0 1 1 0" + (kind.equals("coat") ? " 1;" : ";"));
                wear("a " + kind, x, 0, 5, kind.equals("coat") ? 1 : -1, kind.equals("coat") ? 1 : -1);
            }
        });
    }

    private static void wearWhich() {
        Edge.of(22, "the least HEAT more; of like ones the least as bits of THINGS", () -> {
            String person = "person 9 9 30;case 0 9 60 9;";
            wear("two of less HEAT", Check.told(person + "coat 5 0 0 0 0 5;coat 3 0 0 0 0 2;coat 2 0 0 0 0 2;"), 0, 5, 4, 6);
            wear("one of less HEAT", Check.told(person + "coat 3 0 0 0 0 2;coat 2 0 0 0 0 2;coat 5 0 0 0 0 3;"), 0, 5, 3, 4);
            wear("like ones", Check.told(person + "coat 3 0 0 0 0 2;coat 2 0 0 0 0 2;coat 5 0 0 0 0 4;"), 0, 5, 4, 3);
            wear("like ones", Check.told(person + "coat 5 0 0 0 0 4;coat 3 0 0 0 0 2;coat 2 0 0 0 0 2;"), 0, 5, 4, 1);
            wear("like ones", Check.told(person + "coat 5 0 0 0 0 4;coat 6 0 0 0 0 4;coat 5 0 0 0 0 3;"), 0, 5, 3, 4);
            wear("none is less than one of nothing", Check.told(person + "coat 5 0 0 0 0 1;coat 0 0 0 0 0 1;"), 0, 0, 0, 0);
            wear("the last of twelve", Check.told(person + "thing 9 0 0 0 0;".repeat(11) + "coat 5 0 0 0 0 1;"), 0, 5, 1, 2048);
        });
    }

    // ---- promises 23 and 24

    private static void share(String what, PoundsOver x, int want, int... carriers) {
        Check.due(what + ": share()", x.share(), want);
        for (int c = 0; c < carriers.length; c++) {
            Check.due(what + ": carrier(" + c + ")", x.carrier(c), carriers[c]);
        }
        Check.due(what + ": nothing is shifted", x.count(7), 0);
    }

    private static void share() {
        Edge.of(23, "CARRIED by all PEOPLE is each CASE by one (owner or not)", () -> {
            for (int owner = 0; owner < 3; owner++) {
                String case0 = "case " + owner + " 60 9 9;";
                share("owner " + owner, Check.told("person 1 9 9;person 3 9 9;person 2 9 9;" + case0 + "thing 6 0 0 0 0;"), 2000, 1);
                share("owner " + owner, Check.told("person 1 9 9;person 3 9 9;person 2 9 9;" + case0 + case0 + case0
                    + "thing 6 0 0 0 0;thing 4 0 0 0 1;thing 2 0 0 0 2;"), 2000, 1, 2, 0);
            }
            share("one PERSON carries all", Check.told("person 10 9 9;" + "case 0 60 9 9;".repeat(5) + "thing 6 0 0 0 0;thing 4 0 0 0 4;"),
                1000, 0, 0, 0, 0, 0);
        });
        Edge.of(23, "LOAD of each by 1000, by OWN, cut down: the greatest of these is least", () -> {
            for (int own = 1; own <= 300; own += own < 10 ? 1 : 29) {
                for (int weight = 0; weight <= 60; weight += 20) {
                    PoundsOver x = Check.told("person " + own + " 9 9;case 0 9 9 9;thing " + weight + " 0 0 0 0;coat 0 0 0 0 0 1;");
                    share("OWN " + own, x, weight * 1000 / own, 0);
                    x.shift(1, 10);
                    Check.due("with a coat on", x.share(), weight * 1000 / own);
                }
            }
            // 7 by 3 is 2333 and 5 by 2 is 2500: what is cut down counts.
            share("cut down", Check.told("person 3 9 9;person 2 9 9;case 0 9 9 9;case 0 9 9 9;thing 7 0 0 0 0;thing 5 0 0 0 1;"), 2500, 0, 1);
            share("like ones by what is cut", Check.told("person 299 9 9;person 300 9 9;case 0 9 9 9;thing 1 0 0 0 0;"), 3, 0);
            share("like ones by what is cut", Check.told("person 299 9 9;person 300 9 9;case 0 60 9 9;thing 60 0 0 0 0;"), 200, 0);
            share("one less", Check.told("person 297 9 9;person 300 9 9;case 0 60 9 9;thing 60 0 0 0 0;"), 200, 1);
            // All five by the one who can.
            share("all by the last", Check.told("person 1 9 9;person 1 9 9;person 1 9 9;person 300 9 9;" + "case 0 9 9 9;".repeat(5)
                + "thing 60 0 0 0 0;thing 60 0 0 0 1;thing 60 0 0 0 2;thing 60 0 0 0 3;thing 60 0 0 0 4;"), 1000, 3, 3, 3, 3, 3);
            share("all by the first", Check.told("person 300 9 9;person 1 9 9;person 1 9 9;person 1 9 9;" + "case 3 9 9 9;".repeat(5)
                + "thing 60 0 0 0 0;thing 60 0 0 0 1;thing 60 0 0 0 2;thing 60 0 0 0 3;thing 60 0 0 0 4;"), 1000, 0, 0, 0, 0, 0);
            share("the greatest of all", Check.told("person 1 9 9;case 0 9 60 9;" + "thing 60 0 5 0 0;".repeat(12)), 720000, 0);
            share("no CASES", Check.told("person 1 9 9;person 1 9 9;"), 0);
        });
        Edge.of(23, "of like ones the first as a row of PEOPLE by CASES; none without PEOPLE.", () -> {
            String two = "person 50 9 9;person 50 9 9;";
            share("one THING", Check.told(two + "case 1 9 9 9;thing 5 0 0 0 0;"), 100, 0);
            share("one each", Check.told(two + "case 1 9 9 9;case 1 9 9 9;thing 5 0 0 0 0;thing 5 0 0 0 1;"), 100, 0, 1);
            share("an empty one", Check.told(two + "case 1 9 9 9;case 1 9 9 9;case 1 9 9 9;thing 5 0 0 0 1;thing 5 0 0 0 2;"), 100, 0, 0, 1);
            share("empty ones", Check.told("person 50 9 9;".repeat(4) + "case 3 9 9 9;".repeat(5)), 0, 0, 0, 0, 0, 0);
            share("the first row counts most", Check.told(two + "case 0 9 9 9;case 0 9 9 9;case 0 9 9 9;thing 4 0 0 0 0;thing 2 0 0 0 1;thing 2 0 0 0 2;"),
                80, 0, 1, 1);
            share("one row is less", Check.told(two + "case 0 9 9 9;case 0 9 9 9;case 0 9 9 9;thing 2 0 0 0 0;thing 2 0 0 0 1;thing 4 0 0 0 2;"),
                80, 0, 0, 1);
            share("four and five", Check.told("person 1 9 9;".repeat(4) + "case 0 9 9 9;".repeat(5)
                + "thing 7 0 0 0 0;thing 4 0 0 0 1;thing 4 0 0 0 2;thing 4 0 0 0 3;thing 3 0 0 0 4;"), 7000, 0, 1, 2, 3, 1);
            Check.due("without PEOPLE", Check.told("").share(), -1);
            Check.due("with one", Check.told("person 1 1 1;").share(), 0);
        });
        Edge.of(23, "the greatest share; NONE: there are no PEOPLE. The row is kept (not by NONE).", () -> {
            PoundsOver x = Check.told("person 50 9 9;case 0 9 9 9;thing 5 0 0 0 0;");
            Check.noSuch("carrier(0)", () -> x.carrier(0));
            Check.due("share()", x.share(), 100);
            Check.due("carrier(0)", x.carrier(0), 0);
            Check.due("an empty HALL", Check.hall(x, ""), 0);
            Check.due("share()", x.share(), -1);
            Check.due("a HALL", Check.hall(x, "person 50 9 9;case 0 9 9 9;"), 0);
            Check.noSuch("carrier(0), as none is kept", () -> x.carrier(0));
            Check.due("share()", x.share(), 0);
            Check.due("carrier(0)", x.carrier(0), 0);
        });
    }

    private static void carriers() {
        Edge.of(24, "Who carries a CASE by the row that is kept. NoSuchElementException: also none is kept.", () -> {
            PoundsOver x = Check.told("person 50 9 9;person 50 9 9;case 0 9 9 9;case 0 9 9 9;thing 5 0 0 0 0;thing 5 0 0 0 1;");
            for (int c = -1; c <= 2; c++) {
                int box = c;
                Check.noSuch("carrier(" + c + ") with none kept", () -> x.carrier(box));
            }
            x.share();
            FactEdges.indices("carrier", x, 2, PoundsOver::carrier);
            Check.due("carrier(1)", x.carrier(1), 1);
            x.shift(0, 1);
            x.cheap(0);
            x.image();
            x.restore();
            Check.due("carrier(1) is kept", x.carrier(1), 1);
            Check.due("share()", x.share(), 200);
            Check.due("carrier(1)", x.carrier(1), 0);
            Check.due("a HALL with a FAULT", Check.hall(x, "x"), 1);
            Check.due("carrier(1) is kept", x.carrier(1), 0);
        });
    }

    // ---- promise 25

    private static void look() {
        String hall = "person 9 9 9;case 0 20 10 7;case 0 15 8 3;thing 23 0 0 0 0;thing 15 0 0 0 1;";
        Edge.of(25, "A LOOK: a CASE is looked at with so many TENTHS: then FEE and FINE are paid for it, if it is OVER, else nothing is; how much on the mean, by 10", () -> {
            for (int tenths = 0; tenths <= 10; tenths++) {
                for (int fine : new int[] {0, 1, 40, 999}) {
                    PoundsOver x = Check.told(hall + "looks " + tenths + " " + fine + ";");
                    Check.due("look(0, 0) by " + tenths + " and " + fine, x.look(0, 0), tenths * (30 + fine));
                    Check.due("look(1, 0) by " + tenths + " and " + fine, x.look(1, 0), 0);
                }
            }
            for (int weight = 18; weight <= 22; weight++) {
                PoundsOver x = Check.told("person 9 9 9;case 0 20 10 7;thing " + weight + " 0 0 0 0;looks 5 7;");
                Check.due("look(0, 0) of " + weight, x.look(0, 0), weight > 20 ? 5 * (10 * (weight - 20) + 7) : 0);
                PoundsOver free = Check.told("person 9 9 9;case 0 20 10 7;thing " + weight + " 0 0 0 0;looks 5 7;fee 0;");
                Check.due("look(0, 0) of " + weight + " without a FEE", free.look(0, 0), weight > 20 ? 35 : 0);
            }
            PoundsOver most = Check.told("person 9 9 9;case 0 0 10 7;thing 1 0 0 0 0;looks 10 999;fee 9999;");
            Check.due("the most", most.look(0, 0), 109980);
            Check.due("without looks", Check.told(hall).look(0, 0), 0);
        });
        Edge.of(25, "whether to RISK it is better (less than FEE by 10) than to pay.", () -> {
            // The FEE is 30: by 3 tenths a FINE of 70 is as much as to pay.
            int[] fines = {68, 69, 70, 71};
            for (int fine : fines) {
                Check.due("a FINE of " + fine, Check.told(hall + "looks 3 " + fine + ";").look(0, 1), fine < 70 ? 1 : 0);
            }
            for (int tenths = 0; tenths <= 10; tenths++) {
                Check.due(tenths + " TENTHS", Check.told(hall + "looks " + tenths + " 30;").look(0, 1), tenths < 5 ? 1 : 0);
                Check.due(tenths + " TENTHS without a FINE", Check.told(hall + "looks " + tenths + " 0;").look(0, 1), tenths < 10 ? 1 : 0);
                Check.due(tenths + " TENTHS without a FEE", Check.told(hall + "looks " + tenths + " 5;fee 0;").look(0, 1), 0);
                Check.due(tenths + " TENTHS of one that GOES", Check.told(hall + "looks " + tenths + " 5;").look(1, 1), 0);
            }
            Check.due("without looks", Check.told(hall).look(0, 1), 1);
            Check.due("without looks, one that GOES", Check.told(hall).look(1, 1), 0);
        });
        Edge.of(25, "on the mean, by 10 (what 0), whether to RISK it is better (1: 1, 0).", () -> {
            PoundsOver better = Check.told(hall + "looks 9 3;");
            Check.due("on the mean", better.look(0, 0), 297);
            Check.due("better", better.look(0, 1), 1);
            PoundsOver like = Check.told(hall + "looks 6 20;");
            Check.due("on the mean", like.look(0, 0), 300);
            Check.due("not better", like.look(0, 1), 0);
            PoundsOver worse = Check.told(hall + "looks 7 13;");
            Check.due("on the mean", worse.look(0, 0), 301);
            Check.due("not better", worse.look(0, 1), 0);
        });
        Edge.of(25, "NoSuchElementException: also another what.", () -> {
            PoundsOver x = Check.told(hall);
            FactEdges.indices("look(0, ?)", x, 2, (y, i) -> y.look(0, i));
            FactEdges.indices("look(1, ?)", x, 2, (y, i) -> y.look(1, i));
            FactEdges.indices("look(?, 0)", x, 2, (y, i) -> y.look(i, 0));
            FactEdges.indices("look(?, 1)", x, 2, (y, i) -> y.look(i, 1));
        });
    }
}
