import java.math.BigInteger;

/** The boundaries of what isn't sure, and of what to weigh: promises 18 and 19. */
final class ScaleEdges {
    private static final String PERSON = "person 9 9 9;";

    private ScaleEdges() {
    }

    static void all() {
        sure();
        likely();
        whatOfSure();
        toWeigh();
        none();
        whatOfWeigh();
    }

    private static void row(String what, PoundsOver x, int c, long... want) {
        for (int i = 0; i < 5; i++) {
            Check.due(what + ": sure(" + c + ", " + i + ")", x.sure(c, i), want[i]);
        }
    }

    private static String thing(int weight, int unsure) {
        return "thing " + weight + " " + unsure + " 0 1 0;";
    }

    // ---- promise 18

    private static void sure() {
        Edge.of(18, "a THING weighs what was told, or up to so much less or more, each whole pound as likely.", () -> {
            for (int unsure = 0; unsure <= 9; unsure++) {
                for (int limit = 9 - unsure; limit <= 12 + unsure; limit++) {
                    if (limit >= 0) {
                        PoundsOver x = Check.told(PERSON + "case 0 " + limit + " 9 0;" + thing(10, unsure));
                        int all = 2 * unsure + 1;
                        int good = Math.max(0, Math.min(all, limit - 10 + unsure + 1));
                        int by = gcd(good, all);
                        row("UNSURE " + unsure + ", LIMIT " + limit, x, 0, 10 - unsure, 10 + unsure, good == all ? 1 : good == 0 ? 0 : 2,
                            good / by, all / by);
                    }
                }
            }
            row("down to 0", Check.told(PERSON + "case 0 0 9 0;" + thing(9, 9)), 0, 0, 18, 2, 1, 19);
            row("up to 69", Check.told(PERSON + "case 0 68 9 0;" + thing(60, 9)), 0, 51, 69, 2, 18, 19);
            row("nothing at all", Check.told(PERSON + "case 0 0 9 0;" + thing(0, 0)), 0, 0, 0, 1, 1, 1);
        });
        Edge.of(18, "Of a CASE: the least, the most that it can weigh; SURE that it GOES (1), that it doesn't (0), neither (2)", () -> {
            // From 12 to 18.
            int[] limits = {10, 11, 12, 13, 17, 18, 19};
            int[] sure = {0, 0, 2, 2, 2, 1, 1};
            for (int i = 0; i < limits.length; i++) {
                PoundsOver x = Check.told(PERSON + "case 0 " + limits[i] + " 9 0;case 0 0 9 0;" + thing(5, 2) + thing(10, 1) + "thing 60 9 0 1 1;");
                Check.due("the least", x.sure(0, 0), 12);
                Check.due("the most", x.sure(0, 1), 18);
                Check.due("SURE with LIMIT " + limits[i], x.sure(0, 2), sure[i]);
                x.shift(1, 1);
                Check.due("the least without one", x.sure(0, 0), 3);
                Check.due("the most without one", x.sure(0, 1), 7);
                Check.due("SURE without one", x.sure(0, 2), 1);
                Check.due("SURE of the other", x.sure(1, 2), 0);
                x.shift(0, 10);
                row("nothing is in it", x, 0, 0, 0, 1, 1, 1);
            }
            PoundsOver twelve = Check.told(PERSON + "case 0 200 60 0;" + thing(60, 9).repeat(12));
            row("twelve", twelve, 0, 612, 828, 0, 0, 1);
        });
    }

    private static int gcd(int a, int b) {
        return b == 0 ? Math.max(1, a) : gcd(b, a % b);
    }

    /** How many of all rows of weights of these THINGS come to no more than the limit. */
    private static long rows(int[][] things, int skip, int from, int limit) {
        if (from == things.length) {
            return limit >= 0 ? 1 : 0;
        }
        if (from == skip) {
            return rows(things, skip, from + 1, limit);
        }
        long sum = 0;
        for (int w = things[from][0] - things[from][1]; w <= things[from][0] + things[from][1]; w++) {
            sum += rows(things, skip, from + 1, limit - w);
        }
        return sum;
    }

    private static PoundsOver told(int[][] things, int limit) {
        StringBuilder text = new StringBuilder(PERSON).append("case 0 ").append(limit).append(" 9 0;");
        for (int[] t : things) {
            text.append(thing(t[0], t[1]));
        }
        return Check.told(text.toString());
    }

    private static final int[][][] SETS = {
        {{4, 0}}, {{4, 1}, {4, 0}}, {{4, 1}, {5, 1}}, {{9, 9}, {9, 9}}, {{6, 2}, {9, 3}}, {{3, 3}, {2, 1}, {5, 2}},
        {{7, 1}, {2, 2}, {4, 4}}, {{1, 1}, {1, 1}, {1, 1}, {1, 1}}, {{9, 1}, {5, 0}, {9, 1}}, {{8, 4}, {3, 1}, {1, 0}, {2, 2}},
    };

    private static void likely() {
        Edge.of(18, "how likely it GOES, as a fraction in lowest terms.", () -> {
            for (int[][] set : SETS) {
                long all = rows(set, -1, 0, 999);
                for (int limit = 0; limit <= 40; limit++) {
                    PoundsOver x = told(set, limit);
                    long good = rows(set, -1, 0, limit);
                    long by = BigInteger.valueOf(good).gcd(BigInteger.valueOf(all)).longValue();
                    Check.due("the upper part with LIMIT " + limit, x.sure(0, 3), good / by);
                    Check.due("the lower part with LIMIT " + limit, x.sure(0, 4), all / by);
                }
            }
            greatNumbers();
        });
    }

    /** Twelve THINGS of 0 to 18: 19 times itself in all, which no int holds. */
    private static void greatNumbers() {
        BigInteger[] ways = {BigInteger.ONE};
        for (int t = 0; t < 12; t++) {
            BigInteger[] more = new BigInteger[ways.length + 18];
            java.util.Arrays.fill(more, BigInteger.ZERO);
            for (int w = 0; w < ways.length; w++) {
                for (int more1 = 0; more1 <= 18; more1++) {
                    more[w + more1] = more[w + more1].add(ways[w]);
                }
            }
            ways = more;
        }
        BigInteger all = BigInteger.valueOf(19).pow(12);
        for (int limit : new int[] {0, 1, 2, 50, 106, 107, 108, 109, 150, 198, 199, 200}) {
            BigInteger good = BigInteger.ZERO;
            for (int w = 0; w <= limit; w++) {
                good = good.add(ways[w]);
            }
            PoundsOver x = Check.told(PERSON + "case 0 " + limit + " 9 0;" + thing(9, 9).repeat(12));
            BigInteger by = good.gcd(all);
            Check.due("the upper part of twelve with LIMIT " + limit, x.sure(0, 3), good.divide(by).longValueExact());
            Check.due("the lower part of twelve with LIMIT " + limit, x.sure(0, 4), all.divide(by).longValueExact());
        }
    }

    private static void whatOfSure() {
        Edge.of(18, "the least (what 0), the most (1), SURE (2), how likely: the upper part (3), the lower one (4).", () -> {
            for (int limit = 13; limit <= 25; limit++) {
                PoundsOver x = Check.told(PERSON + "case 0 " + limit + " 20 1;" + thing(10, 2) + thing(9, 3));
                int known = limit < 14 ? 0 : limit >= 24 ? 1 : 2;
                Check.due("what 0", x.sure(0, 0), 14);
                Check.due("what 1", x.sure(0, 1), 24);
                Check.due("what 2 with LIMIT " + limit, x.sure(0, 2), known);
                Check.due("0 by 1 with LIMIT " + limit, x.sure(0, 3) == 0 && x.sure(0, 4) == 1, known == 0);
                Check.due("1 by 1 with LIMIT " + limit, x.sure(0, 3) == 1 && x.sure(0, 4) == 1, known == 1);
            }
            row("LIMIT 20", Check.told(PERSON + "case 0 20 20 1;" + thing(10, 2) + thing(9, 3)), 0, 14, 24, 2, 5, 7);
        });
        Edge.of(18, "NoSuchElementException: also another what.", () -> {
            PoundsOver x = Check.told(PERSON + "case 0 9 9 0;case 0 9 9 0;" + thing(9, 3));
            FactEdges.indices("sure(0, ?)", x, 5, (y, i) -> y.sure(0, i));
            FactEdges.indices("sure(1, ?)", x, 5, (y, i) -> y.sure(1, i));
            for (int what = 0; what < 5; what++) {
                int w = what;
                FactEdges.indices("sure(?, " + what + ")", x, 2, (y, i) -> y.sure(i, w));
            }
        });
    }

    // ---- promise 19

    private static void toWeigh(String what, PoundsOver x, int c, int... want) {
        for (int i = 0; i < 3; i++) {
            Check.due(what + ": weigh(" + c + ", " + i + ")", x.weigh(c, i), want[i]);
        }
    }

    /** With how many of its weights it is known, by trying out all weights of the others. */
    private static int telling(int[][] set, int t, int limit) {
        long all = rows(set, t, 0, 999);
        int telling = 0;
        for (int w = set[t][0] - set[t][1]; w <= set[t][0] + set[t][1]; w++) {
            long good = rows(set, t, 0, limit - w);
            telling += good == 0 || good == all ? 1 : 0;
        }
        return telling;
    }

    private static void toWeigh() {
        Edge.of(19, "TO WEIGH: the THING in it that, weighed, most likely makes it known whether it GOES (by all that the others may weigh),"
            + " of like ones the least; how likely that is, as a fraction in lowest terms", () -> {
            for (int[][] set : SETS) {
                long all = rows(set, -1, 0, 999);
                for (int limit = 0; limit <= 40; limit++) {
                    long good = rows(set, -1, 0, limit);
                    int best = -1;
                    int upper = 0;
                    int lower = 1;
                    for (int t = 0; t < set.length && good > 0 && good < all; t++) {
                        int telling = telling(set, t, limit);
                        if (best < 0 || telling * lower > upper * (2 * set[t][1] + 1)) {
                            best = t;
                            upper = telling;
                            lower = 2 * set[t][1] + 1;
                        }
                    }
                    int by = gcd(upper, lower);
                    toWeigh("LIMIT " + limit, told(set, limit), 0, best, upper / by, lower / by);
                }
            }
            // What is elsewhere doesn't count, though it would tell as much.
            for (int unsure = 0; unsure <= 9; unsure += 3) {
                for (int weight = unsure; weight <= 12; weight += 4) {
                    String elsewhere = "thing " + weight + " " + unsure + " 0 1 1;";
                    PoundsOver x = Check.told(PERSON + "case 0 20 20 1;case 0 9 9 0;" + elsewhere + thing(10, 2) + elsewhere + thing(9, 3) + elsewhere);
                    toWeigh("elsewhere " + weight + " by " + unsure, x, 0, 3, 3, 7);
                    x.shift(0, 10);
                    toWeigh("on a PERSON " + weight + " by " + unsure, x, 0, 3, 3, 7);
                    PoundsOver never = Check.told(PERSON + "case 0 16 20 1;case 0 9 9 0;" + elsewhere + thing(4, 1).repeat(4));
                    toWeigh("none tells, elsewhere " + weight, never, 0, 1, 0, 1);
                }
            }
            toWeigh("of like ones the least", told(new int[][] {{3, 0}, {4, 1}, {3, 1}}, 10), 0, 1, 1, 3);
            toWeigh("none tells, but it isn't known", told(new int[][] {{4, 1}, {4, 1}, {4, 1}, {4, 1}}, 16), 0, 0, 0, 1);
            toWeigh("the last one tells", told(new int[][] {{4, 0}, {4, 0}, {4, 1}}, 12), 0, 2, 1, 1);
            toWeigh("in lowest terms", told(new int[][] {{5, 4}, {5, 1}, {1, 1}, {1, 1}}, 10), 0, 0, 1, 3);
        });
    }

    private static void none() {
        Edge.of(19, "none, if it is known (or nothing is in it).", () -> {
            // From 3 to 9: known but for LIMITS of 3 to 8.
            for (int limit = 1; limit <= 11; limit++) {
                PoundsOver x = told(new int[][] {{4, 2}, {2, 1}}, limit);
                boolean known = limit < 3 || limit >= 9;
                Check.due("LIMIT " + limit, x.weigh(0, 0) == -1, known);
                Check.due("SURE with LIMIT " + limit, x.sure(0, 2) != 2, known);
            }
            toWeigh("less than the least", told(new int[][] {{4, 2}, {2, 1}}, 2), 0, -1, 0, 1);
            toWeigh("the most", told(new int[][] {{4, 2}, {2, 1}}, 9), 0, -1, 0, 1);
            toWeigh("the least", told(new int[][] {{4, 2}, {2, 1}}, 3), 0, 0, 4, 5);
            PoundsOver x = Check.told(PERSON + "case 0 5 9 0;case 0 0 9 0;" + thing(5, 5));
            toWeigh("one THING", x, 0, 0, 1, 1);
            toWeigh("nothing is in it", x, 1, -1, 0, 1);
            x.shift(0, 10);
            toWeigh("nothing is in it any more", x, 0, -1, 0, 1);
            toWeigh("all is sure", told(new int[][] {{5, 0}}, 4), 0, -1, 0, 1);
            toWeigh("all is sure", told(new int[][] {{5, 0}}, 5), 0, -1, 0, 1);
        });
    }

    private static void whatOfWeigh() {
        Edge.of(19, "NoSuchElementException: also another what.", () -> {
            PoundsOver x = Check.told(PERSON + "case 0 9 9 0;case 0 9 9 0;" + thing(9, 3));
            FactEdges.indices("weigh(0, ?)", x, 3, (y, i) -> y.weigh(0, i));
            FactEdges.indices("weigh(1, ?)", x, 3, (y, i) -> y.weigh(1, i));
            for (int what = 0; what < 3; what++) {
                int w = what;
                FactEdges.indices("weigh(?, " + what + ")", x, 2, (y, i) -> y.weigh(i, w));
            }
        });
        Edge.of(19, "the THING (what 0; NONE: none), how likely: the upper part (1), the lower one (2; 0 by 1: none).", () -> {
            PoundsOver x = Check.told(PERSON + "case 0 20 20 1;case 0 14 20 1;case 0 9 9 9;thing 10 2 1 1 0;thing 9 3 1 1 0;thing 6 1 1 1 1;");
            toWeigh("the second", x, 0, 1, 3, 7);
            toWeigh("known", x, 1, -1, 0, 1);
            toWeigh("empty", x, 2, -1, 0, 1);
        });
    }
}
