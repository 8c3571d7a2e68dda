/** Promises 26 to 30: what is SEEN and what fits it, the best SHIFT, a COUNTER by a seed. */
public final class SeenAndBestTest {
    public static void main(String[] args) {
        see();
        fits();
        best();
        counter();
        Check.end();
    }

    private static void see() {
        PoundsOver x = Check.told("person 9 9 9;case 0 9 9 9;thing 1 0 0 0 0;");
        Check.due("see below 0", x.see(0, -1), -1);
        Check.due("see above 999", x.see(0, 1000), -1);
        Check.due("count(12)", x.count(12), 2);
        Check.noSuch("see(1, 0)", () -> x.see(1, 0));
        Check.noSuch("see(-1, -1)", () -> x.see(-1, -1));
        Check.due("count(12) behind an exception", x.count(12), 2);
        Check.due("forget() none", x.forget(), -1);
        for (int i = 1; i <= 6; i++) {
            Check.due("see " + i, x.see(0, i == 1 ? 0 : 999), i);
        }
        Check.due("see 7", x.see(0, 1), -1);
        Check.due("count(12)", x.count(12), 3);
        Check.due("count(8)", x.count(8), 6);
        for (int i = 5; i >= 0; i--) {
            Check.due("forget()", x.forget(), i);
        }
        Check.due("forget() none", x.forget(), -1);
        Check.due("count(12)", x.count(12), 3);
        Check.due("count(11)", x.count(11), 0);
    }

    private static void fits(PoundsOver x, int... want) {
        for (int what = 0; what < 3; what++) {
            Check.due("fits(" + what + ")", x.fits(what), want[what]);
        }
    }

    private static void fits() {
        PoundsOver x = Check.told("person 9 9 9;case 0 9 9 9;case 0 9 9 9 board;case 0 9 1 9;"
            + "sharp 3 0 1 0 0;thing 3 0 1 0 0;thing 0 0 2 0 1;shirt 3 0 1 0 1;");
        // sharp to 2; thing to 1, 2; the second thing to 0; the shirt to 0, 2
        fits(x, 6, 2, 1);
        x.see(0, 3);
        fits(x, 3, 2, 0);
        x.see(1, 6);
        fits(x, 1, 101, 0);
        x.see(0, 3);
        fits(x, 1, 101, 0);
        x.see(0, 6);
        fits(x, 0, -1, 0);
        x.forget();
        x.forget();
        x.forget();
        x.forget();
        x.see(0, 6);
        fits(x, 2, 200, 1);
        x.shift(2, 10);
        // What is on a PERSON isn't shifted.
        fits(x, 1, 302, 1);
        Check.due("count(7) behind fits", x.count(7), 1);
        Check.noSuch("fits(3)", () -> x.fits(3));
        Check.noSuch("fits(-1)", () -> x.fits(-1));
    }

    private static void best(PoundsOver x, int... want) {
        for (int what = 0; what < 3; what++) {
            Check.due("best(" + what + ")", x.best(what), want[what]);
        }
    }

    private static void best() {
        PoundsOver x = Check.told("person 60 3 9;case 0 20 10 7;case 0 15 8 3;thing 12 0 4 50 0;coat 9 0 3 80 0 5;"
            + "shirt 2 0 1 30 0;food 1 0 1 1 0;");
        Check.due("bill()", x.bill(), 40);
        // The coat worn opens one CASE, the coat or the thing in the other opens two.
        best(x, 1, 10, 7);
        Check.due("best shifts nothing", x.count(7), 0);
        x.shift(1, 10);
        best(x, -1, -1, -1);
        x.undo();
        x.shift(3, 20);
        Check.due("bill()", x.bill(), 38);
        best(x, 1, 10, 8);
        PoundsOver eat = Check.told("person 60 0 9;case 0 20 10 7;case 0 15 8 7;food 12 0 4 50 0;food 12 0 4 50 0;post 99 0;");
        // Posted is as cheap as eaten and in a lesser PLACE.
        best(eat, 0, 21, 7);
        PoundsOver thrown = Check.told("person 60 0 9;case 0 20 10 0;thing 30 0 4 0 0;thing 30 0 4 0 0;");
        best(thrown, 0, 20, 100);
        PoundsOver like = Check.told("person 60 0 9;case 0 20 10 5;thing 21 0 4 5 0;");
        best(like, -1, -1, -1);
        PoundsOver back = Check.told("person 60 9 9;case 0 20 10 5;case 0 20 10 0;thing 1 0 1 5 0;thing 30 0 4 900 1;fee things*10;");
        back.shift(0, 10);
        best(back, -1, -1, -1);
        PoundsOver odd = Check.told("person 60 9 9;case 0 20 10 5;thing 1 0 1 5 0;thing 30 0 4 900 0;fee 90-things*40;");
        odd.shift(0, 10);
        Check.due("bill()", odd.bill(), 55);
        best(odd, 0, 0, 15);
        Check.noSuch("best(3)", () -> x.best(3));
        Check.noSuch("best(-1)", () -> x.best(-1));
    }

    private static int draw(int seed, int n) {
        return (seed >> 16 & 32767) % n;
    }

    private static void counter() {
        PoundsOver x = Check.told("person 60 3 9;case 0 9 5 7;case 0 4 5 3 board;thing 2 0 1 1 0;sharp 3 0 2 1 0;coat 4 0 1 1 1 1;");
        int a = 5 * 1103515245 + 12345;
        int b = a * 1103515245 + 12345;
        int thing = draw(a, 3);
        int c = draw(b, 2);
        boolean moves = c != (thing == 2 ? 1 : 0) && !(thing == 1 && c == 1);
        Check.due("counter(5, 1, 0)", x.counter(5, 1, 0), moves ? 1 : 0);
        int other = moves && thing == 0 ? 6 : moves && thing == 2 ? 0 : 4;
        Check.due("counter(5, 1, 1)", x.counter(5, 1, 1), other <= 4 ? 1 : 0);
        for (int seed : new int[] {0, 1, -1, 77, Integer.MIN_VALUE, Integer.MAX_VALUE}) {
            Check.due("counter of none", x.counter(seed, 0, 0), 0);
            Check.due("states of none", x.counter(seed, 0, 1), 0);
            int shifts = x.counter(seed, 200, 0);
            int states = x.counter(seed, 200, 1);
            Check.due("some of 200 with " + seed, shifts > 0 && shifts < 200, true);
            Check.due("some states of 200 with " + seed, states > 0 && states < 200, true);
        }
        Check.due("what is stays", x.box(0, 9), 3);
        Check.due("nothing is opened", x.count(6), 0);
        Check.due("no ACT is kept", x.count(7), 0);
        Check.noSuch("counter(1, 1, 2)", () -> x.counter(1, 1, 2));
        Check.noSuch("counter(1, 201, -1)", () -> x.counter(1, 201, -1));
        Check.illegal("counter(1, 201, 0)", () -> x.counter(1, 201, 0));
        Check.illegal("counter(1, -1, 1)", () -> x.counter(1, -1, 1));
        x.shift(0, 10);
        x.shift(2, 10);
        x.shift(1, 20);
        Check.due("nothing is in a CASE", x.counter(1, 200, 0), 0);
        Check.due("all states GO", x.counter(1, 200, 1), 200);
        PoundsOver one = Check.told("person 60 3 9;case 0 9 5 7;case 0 1 5 7;thing 2 0 0 0 0;");
        Check.due("some SHIFTS of one THING", one.counter(1, 200, 0) > 50, true);
        Check.due("some states of one THING", one.counter(1, 200, 1) > 50 && one.counter(1, 200, 1) < 150, true);
        PoundsOver bare = Check.told("person 60 3 9;case 0 9 5 7;");
        Check.due("no THINGS, no states", bare.counter(1, 200, 1), 0);
    }
}
