/** Promises 6 to 8: what is told of a PERSON, a CASE, a THING. */
public final class FactsTest {
    private static final String HALL = "person 60 3 9;person 40 0 0;case 0 20 10 7;case 1 15 8 3 board;"
        + "thing 12 2 4 50 0;coat 9 0 3 80 0 5;shirt 2 0 1 30 0;glass 6 1 2 90 1;food 4 1 2 5 1;"
        + "post 4 12;post 10 30;fee over*over+5;";

    public static void main(String[] args) {
        people();
        cases();
        things();
        rules();
        Check.end();
    }

    private static void row(String name, PoundsOver x, int index, int... want) {
        for (int what = 0; what < want.length; what++) {
            int got = name.equals("person") ? x.person(index, what)
                : name.equals("box") ? x.box(index, what) : x.thing(index, what);
            Check.due(name + "(" + index + ", " + what + ")", got, want[what]);
        }
    }

    private static void people() {
        PoundsOver x = Check.told(HALL);
        row("person", x, 0, 60, 3, 9, 0, 0, 1);
        row("person", x, 1, 40, 0, 0, 0, 0, 0);
        x.shift(1, 10);
        x.shift(4, 10);
        x.shift(2, 10);
        row("person", x, 0, 60, 3, 9, 5, 3, 1);
        x.shift(2, 1);
        row("person", x, 0, 60, 3, 9, 5, 2, 0);
        row("person", x, 1, 40, 0, 0, 0, 0, 1);
        Check.noSuch("person(2, 0)", () -> x.person(2, 0));
        Check.noSuch("person(-1, 0)", () -> x.person(-1, 0));
        Check.noSuch("person(0, 6)", () -> x.person(0, 6));
        Check.noSuch("person(0, -1)", () -> x.person(0, -1));
    }

    private static void cases() {
        PoundsOver x = Check.told(HALL);
        row("box", x, 0, 0, 20, 10, 7, 0, 23, 8, 3, 14, 7);
        row("box", x, 1, 1, 15, 8, 3, 1, 10, 4, 0, 0, 24);
        x.shift(0, 20);
        row("box", x, 0, 0, 20, 10, 7, 0, 11, 4, 0, 0, 6);
        Check.noSuch("box(2, 0)", () -> x.box(2, 0));
        Check.noSuch("box(-1, 0)", () -> x.box(-1, 0));
        Check.noSuch("box(0, 10)", () -> x.box(0, 10));
        Check.noSuch("box(0, -1)", () -> x.box(0, -1));
    }

    private static void things() {
        PoundsOver x = Check.told(HALL);
        row("thing", x, 0, 0, 12, 2, 4, 50, 0, 0, -1);
        row("thing", x, 1, 1, 9, 0, 3, 80, 0, 5, 30);
        row("thing", x, 2, 5, 2, 0, 1, 30, 0, 0, 12);
        row("thing", x, 3, 3, 6, 1, 2, 90, 1, 0, 30);
        row("thing", x, 4, 4, 4, 1, 2, 5, 1, 0, 12);
        x.shift(4, 22);
        row("thing", x, 4, 4, 4, 1, 2, 5, 22, 0, 12);
        Check.noSuch("thing(5, 0)", () -> x.thing(5, 0));
        Check.noSuch("thing(-1, 0)", () -> x.thing(-1, 0));
        Check.noSuch("thing(0, 8)", () -> x.thing(0, 8));
        Check.noSuch("thing(0, -1)", () -> x.thing(0, -1));
        Check.due("a coat told behind a sharp one", Check.told("person 1 1 1;case 0 9 9 9;sharp 1 0 1 1 0;").thing(0, 0), 2);
        // A THING in the place of an older HALL's coat has no HEAT.
        Check.feed(x, "person 1 1 1;case 0 9 9 9;food 1 0 1 1 0;food 1 0 1 1 0;");
        x.hall(58);
        Check.feed(x, "person 1 1 1;case 0 9 9 9;food 1 0 1 1 0;food 1 0 1 1 0;");
        x.hall(58);
        Check.due("thing(1, 6)", x.thing(1, 6), 0);
    }

    /** The FEE of a CASE that weighs 23, holds 3 THINGS and has the LIMIT 20 (so 3 are OVER). */
    private static void fee(String rule, int want) {
        PoundsOver x = Check.told("person 1 1 1;case 0 20 60 0;thing 20 0 1 1 0;thing 3 0 1 1 0;thing 0 0 1 1 0;" + rule);
        Check.due("FEE by " + rule, x.box(0, 8), want);
    }

    private static void rules() {
        fee("", 30);
        fee("fee over;", 3);
        fee("fee weight;", 23);
        fee("fee limit;", 20);
        fee("fee things;", 3);
        fee("fee board;", 0);
        fee("fee 9999;", 9999);
        fee("fee 9999+1;", 9999);
        fee("fee 0-1;", 0);
        fee("fee 9-3-2;", 4);
        fee("fee 9-(3-2);", 8);
        fee("fee 2+3*4;", 14);
        fee("fee 20/3*3;", 18);
        fee("fee 20/(3*3);", 2);
        fee("fee 10-7/2;", 7);
        fee("fee 10+(0-7)/2;", 7);
        fee("fee 5+7/0;", 5);
        fee("fee 2<3;", 1);
        fee("fee 3<3;", 0);
        fee("fee 3=3;", 1);
        fee("fee 3=2;", 0);
        fee("fee 1+2<2+2;", 1);
        fee("fee not 5;", 0);
        fee("fee not 0;", 1);
        fee("fee not not 7;", 1);
        fee("fee not 1<2;", 0);
        fee("fee 5 and 6;", 1);
        fee("fee 5 and 0;", 0);
        fee("fee 0 or 7;", 1);
        fee("fee 0 or 0;", 0);
        fee("fee 1 or 1 and 0;", 1);
        fee("fee (1 or 1) and 0;", 0);
        fee("fee not 0 and 0;", 0);
        fee("fee 7 and 2<3 and not 0 or 0;", 1);
        fee("fee 9999*9999*9999/9999;", 0);
        fee("fee 0-9999*9999*9999/9999;", 9999);
        fee("fee 9999*9999*9999/9999+102750;".replace("102750", "9999*10+2760"), -102745 + 9999 * 10 + 2760);
        fee("fee 9999*9999*43;", 9999 * 9999 * 43 < 0 ? 0 : 9999);
        fee("fee 9999*9999*22;", 9999 * 9999 * 22 < 0 ? 0 : 9999);
        fee("fee (((((over)))))*(((((2)))));", 6);
        fee("fee 1 and(1<(1+(1*(1+over))));", 1);
        fee("fee 0 or 1 and 0=1+1*(0 or 1 and 3=1+1*(0 or 1 and 2=1+1*(0 or 1 and 1=1+1*(0 or 1 and 0=1*(5-5)-1))));",
            deep());
        PoundsOver board = Check.told("person 1 1 1;case 0 1 9 0 board;thing 2 0 1 1 0;fee board+1;");
        Check.due("FEE on BOARD", board.box(0, 8), 2);
        PoundsOver goes = Check.told("person 1 1 1;case 0 2 9 0;thing 2 0 1 1 0;fee 99;");
        Check.due("FEE of one that GOES", goes.box(0, 8), 0);
        PoundsOver far = Check.told("person 1 1 1;case 0 0 60 0;" + "thing 60 0 1 1 0;".repeat(12));
        Check.due("FEE of 720 pounds", far.box(0, 8), 7200);
    }

    private static int deep() {
        int a = 0 == 1 * (5 - 5) - 1 ? 1 : 0;
        int b = 1 == 1 + a ? 1 : 0;
        int c = 2 == 1 + b ? 1 : 0;
        int d = 3 == 1 + c ? 1 : 0;
        return 0 == 1 + d ? 1 : 0;
    }
}
