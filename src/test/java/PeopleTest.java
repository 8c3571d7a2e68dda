/** Promises 20 to 25: what if one CASE is lost, coats to wear, who carries what, a LOOK. */
public final class PeopleTest {
    public static void main(String[] args) {
        lost();
        wear();
        share();
        look();
        Check.end();
    }

    private static void lost() {
        PoundsOver x = Check.told("person 9 9 9;person 9 9 9;person 9 9 9;case 0 9 9 9;case 0 9 9 9;case 1 9 9 9;case 2 9 9 9;"
            + "shirt 1 0 1 1 0;shirt 1 0 1 1 2;shirt 1 0 1 1 2;thing 1 0 1 1 1;");
        int[] lost = {1, 0, 2, 0};
        for (int c = 0; c < 4; c++) {
            Check.due("lost(" + c + ")", x.lost(c), lost[c]);
        }
        Check.due("safe()", x.safe(), 10);
        x.shift(1, 11);
        Check.due("lost(2) with one on him", x.lost(2), 0);
        Check.due("safe()", x.safe(), 14);
        x.shift(2, 1);
        Check.due("lost(0) with two", x.lost(0), 0);
        Check.due("safe()", x.safe(), 15);
        x.shift(0, 20);
        Check.due("lost(1)", x.lost(1), 1);
        Check.noSuch("lost(4)", () -> x.lost(4));
        Check.noSuch("lost(-1)", () -> x.lost(-1));
    }

    private static void wear(PoundsOver x, int person, int pounds, int heat, int bits) {
        Check.due("wear(" + person + ", " + pounds + ", false)", x.wear(person, pounds, false), heat);
        Check.due("wear(" + person + ", " + pounds + ", true)", x.wear(person, pounds, true), bits);
    }

    private static void wear() {
        PoundsOver x = Check.told("person 9 9 9;person 9 9 30;case 0 9 9 9;case 0 9 9 9;case 1 9 9 9;"
            + "coat 5 0 0 0 0 4;coat 6 0 0 0 1 4;coat 9 0 0 0 1 6;coat 60 0 0 0 2 1;shirt 30 0 0 0 0;coat 3 0 0 0 0 2;");
        wear(x, 0, 0, 0, 0);
        wear(x, 0, 3, 2, 32);
        wear(x, 0, 4, 4, 1);
        wear(x, 0, 6, 4, 2);
        wear(x, 0, 9, 6, 4);
        wear(x, 0, 10, 8, 3);
        wear(x, 0, 11, 8, 3);
        wear(x, 0, 12, 8, 36);
        wear(x, 0, 13, -1, -1);
        wear(x, 1, 60, 1, 8);
        wear(x, 1, 61, -1, -1);
        x.shift(5, 10);
        wear(x, 0, 7, 6, 4);
        wear(x, 0, 10, -1, -1);
        wear(x, 0, 0, 0, 0);
        x.shift(0, 11);
        wear(x, 0, 5, 4, 2);
        Check.noSuch("wear(2, 0, true)", () -> x.wear(2, 0, true));
        Check.noSuch("wear(-1, 300, true)", () -> x.wear(-1, 300, true));
        Check.illegal("wear(0, -1, true)", () -> x.wear(0, -1, true));
        Check.illegal("wear(0, 201, false)", () -> x.wear(0, 201, false));
        wear(x, 0, 200, -1, -1);
    }

    private static void share() {
        PoundsOver x = Check.told("person 60 9 9;person 40 9 9;case 0 20 10 0;case 1 15 10 0;case 0 10 10 0;"
            + "thing 23 0 0 0 0;thing 10 0 0 0 1;thing 5 0 0 0 2;");
        Check.noSuch("carrier(0) with none kept", () -> x.carrier(0));
        Check.due("share()", x.share(), 383);
        int[] row = {0, 1, 1};
        for (int c = 0; c < 3; c++) {
            Check.due("carrier(" + c + ")", x.carrier(c), row[c]);
        }
        Check.noSuch("carrier(3)", () -> x.carrier(3));
        Check.noSuch("carrier(-1)", () -> x.carrier(-1));
        x.shift(0, 20);
        Check.due("carrier(0) stays", x.carrier(0), 0);
        Check.due("share() again", x.share(), 166);
        Check.due("carrier(0) now", x.carrier(0), 0);
        Check.due("carrier(1) now", x.carrier(1), 0);
        Check.due("carrier(2) now", x.carrier(2), 1);
        PoundsOver like = Check.told("person 50 9 9;person 50 9 9;case 0 20 10 0;case 1 15 10 0;"
            + "thing 5 0 0 0 0;thing 5 0 0 0 1;");
        Check.due("share() of like ones", like.share(), 100);
        Check.due("carrier(0)", like.carrier(0), 0);
        Check.due("carrier(1)", like.carrier(1), 1);
        PoundsOver none = Check.told("");
        Check.due("share() without PEOPLE", none.share(), -1);
        PoundsOver bare = Check.told("person 50 9 9;");
        Check.due("share() without CASES", bare.share(), 0);
        PoundsOver four = Check.told("person 1 9 9;person 1 9 9;person 1 9 9;person 1 9 9;" + "case 0 9 9 9;".repeat(5)
            + "thing 7 0 0 0 0;thing 4 0 0 0 1;thing 4 0 0 0 2;thing 4 0 0 0 3;thing 3 0 0 0 4;");
        Check.due("share() of four", four.share(), 7000);
        int[] carriers = {0, 1, 2, 3, 1};
        for (int c = 0; c < 5; c++) {
            Check.due("carrier(" + c + ") of four", four.carrier(c), carriers[c]);
        }
    }

    private static void look() {
        String hall = "person 9 9 9;case 0 20 10 7;case 0 15 8 3;thing 23 0 0 0 0;thing 15 0 0 0 1;";
        PoundsOver x = Check.told(hall + "looks 3 40;fee over*over+5;");
        Check.due("look(0, 0)", x.look(0, 0), 162);
        Check.due("look(0, 1)", x.look(0, 1), 0);
        Check.due("look(1, 0)", x.look(1, 0), 0);
        Check.due("look(1, 1)", x.look(1, 1), 0);
        PoundsOver risk = Check.told(hall + "looks 3 69;");
        Check.due("look(0, 0)", risk.look(0, 0), 297);
        Check.due("look(0, 1)", risk.look(0, 1), 1);
        PoundsOver like = Check.told(hall + "looks 3 70;");
        Check.due("look(0, 0)", like.look(0, 0), 300);
        Check.due("look(0, 1) of like ones", like.look(0, 1), 0);
        PoundsOver free = Check.told(hall + "looks 3 70;fee 0;");
        Check.due("look(0, 0) without FEE", free.look(0, 0), 210);
        Check.due("look(0, 1) without FEE", free.look(0, 1), 0);
        PoundsOver without = Check.told(hall);
        Check.due("look(0, 0) without looks", without.look(0, 0), 0);
        Check.due("look(0, 1) without looks", without.look(0, 1), 1);
        Check.noSuch("look(0, 2)", () -> x.look(0, 2));
        Check.noSuch("look(0, -1)", () -> x.look(0, -1));
        Check.noSuch("look(2, 0)", () -> x.look(2, 0));
        Check.noSuch("look(-1, 0)", () -> x.look(-1, 0));
    }
}
