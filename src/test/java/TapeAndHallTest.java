/** Promises 2 to 5: the tape, a HALL of it, every FAULT and its place, what is counted. */
public final class TapeAndHallTest {
    private static final String PEOPLE = "person 80 3 9;";
    private static final String CASE = PEOPLE + "case 0 20 10 7;";

    public static void main(String[] args) {
        tape();
        hallsThatStand();
        tokens();
        numbersNotAsTold();
        tooMany();
        notToldAhead();
        postsLooksFee();
        casesThatCannot();
        rules();
        theFirstAndTheLeast();
        whatStays();
        counts();
        Check.end();
    }

    private static void tape() {
        PoundsOver x = new PoundsOver();
        for (int i = 1; i <= 35; i++) {
            Check.due("feed " + i, x.feed(0x20202020, 0x20202020, 0x20202020, 0x20202020, 0x20202020), 20 * i);
        }
        Check.due("feed 36", x.feed(0, 0, 0, 0, 0), -1);
        Check.due("count(9)", x.count(9), 700);
        Check.illegal("hall(701)", () -> x.hall(701));
        Check.illegal("hall(-1)", () -> x.hall(-1));
        Check.due("count(9) behind that", x.count(9), 700);
        Check.due("hall(700)", x.hall(700), 0);
        Check.due("count(9) behind hall", x.count(9), 0);
        Check.illegal("hall(1)", () -> x.hall(1));
        // The highest byte first: "fee 1;person 2 3 4;".
        Check.due("feed", x.feed(0x66656520, 0x313b7065, 0x72736f6e, 0x20322033, 0x20343b20), 20);
        Check.due("hall(19)", x.hall(19), 0);
        Check.due("person(0, 1)", x.person(0, 1), 3);
        Check.due("count(9) at the end", x.count(9), 0);
    }

    private static void hallsThatStand() {
        Check.told("");
        Check.told(" \n \n");
        PoundsOver x = Check.told("\nperson\n300 9 30;person1 0 0;case1 200 60 99board;case 0 0 0 0;"
            + "sharp 60 9 0 999 1;coat 0060 9 20 0 0 9 ;post 1 0;post 99 999;looks 10 999;fee(9999)or 1 ; \n");
        int[] counts = {2, 2, 2, 2, 10, 999};
        for (int what = 0; what < counts.length; what++) {
            Check.due("count(" + what + ")", x.count(what), counts[what]);
        }
        Check.due("box(0, 0)", x.box(0, 0), 1);
        Check.due("box(0, 4)", x.box(0, 4), 1);
        Check.due("box(1, 4)", x.box(1, 4), 0);
        Check.due("thing(1, 1)", x.thing(1, 1), 60);
    }

    private static void tokens() {
        Check.fault("x", 1, 0);
        Check.fault("  X", 1, 2);
        Check.fault("persons 1 1 1;", 1, 0);
        Check.fault("perso 1 1 1;", 1, 0);
        Check.fault("Person 1 1 1;", 1, 0);
        Check.fault("over 1 1 1;", 1, 0);
        Check.fault("board;", 1, 0);
        Check.fault(";", 1, 0);
        Check.fault("12345", 1, 0);
        Check.fault("\tperson 1 1 1;", 1, 0);
        Check.fault("person!1 1 1;", 1, 6);
        Check.fault("person 1,1 1;", 1, 8);
        Check.fault("person\u00e9", 1, 6);
        Check.fault("person", 1, 6);
        Check.fault("person  ", 1, 8);
        Check.fault("person 1 1 1", 1, 12);
        Check.fault("person 1 1 1 \n", 1, 14);
        Check.fault("person 1 1;", 1, 10);
        Check.fault("person 1 1 1 1;", 1, 13);
        Check.fault("person 1 1 x;", 1, 11);
        Check.fault("person 1 1 -1;", 1, 11);
        Check.fault("person 1 1 1 board;", 1, 13);
        Check.fault("person 1 1 1;;", 1, 13);
        Check.fault(PEOPLE + "case 0 20 10 7 boards;", 1, 29);
        Check.fault(PEOPLE + "case 0 20 10 7 board board;", 1, 35);
        Check.fault(CASE + "thing 1 0 1 1 0 3;", 1, 45);
        Check.fault(CASE + "coat 1 0 1 1 0;", 1, 43);
        Check.fault("post 1 ;", 1, 7);
        Check.fault("post 1 1 1;", 1, 9);
        Check.fault("looks 1;", 1, 7);
        Check.fault("fee;", 1, 3);
        Check.fault("fee", 1, 3);
        Check.fault("fee 1", 1, 5);
        Check.fault("fee 1 person", 1, 6);
    }

    private static void numbersNotAsTold() {
        Check.fault("person 0 1 1;", 2, 7);
        Check.fault("person 301 1 1;", 2, 7);
        Check.fault("person 00001 1 1;", 2, 7);
        Check.fault("person 1 10 1;", 2, 9);
        Check.fault("person 1 1 31;", 2, 11);
        Check.fault(PEOPLE + "case 0 201 10 7;", 2, 21);
        Check.fault(PEOPLE + "case 0 200 61 7;", 2, 25);
        Check.fault(PEOPLE + "case 0 200 60 100;", 2, 28);
        Check.fault(CASE + "thing 61 0 1 1 0;", 2, 35);
        Check.fault(CASE + "thing 60 10 1 1 0;", 2, 38);
        Check.fault(CASE + "thing 3 4 1 1 0;", 2, 37);
        Check.fault(CASE + "thing 3 3 21 1 0;", 2, 39);
        Check.fault(CASE + "thing 3 3 1 1000 0;", 2, 41);
        Check.fault(CASE + "coat 3 3 1 999 0 0;", 2, 46);
        Check.fault(CASE + "coat 3 3 1 999 0 10;", 2, 46);
        Check.fault("post 0 1;", 2, 5);
        Check.fault("post 100 1;", 2, 5);
        Check.fault("post 99 1000;", 2, 8);
        Check.fault("looks 11 1;", 2, 6);
        Check.fault("looks 10 1000;", 2, 9);
        PoundsOver x = Check.told("person 300 9 30;person 1 0 0;case 1 200 60 99 board;case 0 0 0 0;"
            + "thing 60 9 20 999 0;coat 0 0 0 0 1 1;coat 9 9 20 9 0 9;post 1 0;post 99 999;looks 10 999;");
        Check.due("count(2)", x.count(2), 3);
        Check.due("thing(2, 6)", x.thing(2, 6), 9);
        Check.due("box(0, 4)", x.box(0, 4), 1);
        Check.due("box(1, 4)", x.box(1, 4), 0);
        Check.told("looks 0 0;");
    }

    private static void tooMany() {
        String people = "person 1 1 1;".repeat(4);
        Check.told(people);
        Check.fault(people + "person 1 1 1;", 2, people.length());
        Check.fault(people + "person", 2, people.length());
        String cases = "person 1 1 1;" + "case 0 1 60 1;".repeat(5);
        Check.told(cases);
        Check.fault(cases + "case x", 2, cases.length());
        String things = cases + "food 1 0 1 1 0;shirt 1 0 1 1 4;".repeat(6);
        Check.due("count(2)", Check.told(things).count(2), 12);
        for (String kind : Model.KINDS) {
            Check.fault(things + kind, 2, things.length());
        }
        String posts = "post 1 1;post 2 1;post 3 1;post 4 1;post 5 1;post 99 1;";
        Check.told(posts);
        Check.fault(posts + "post 1 1;", 2, posts.length());
    }

    private static void notToldAhead() {
        Check.fault("case 0 1 1 1;", 3, 5);
        Check.fault(PEOPLE + "case 1 1 1 1;", 3, 19);
        Check.fault(PEOPLE + "case 9999 1 1 1;", 3, 19);
        Check.fault(PEOPLE + "case 10000 1 1 1;", 2, 19);
        Check.fault(PEOPLE + "thing 1 0 0 0 0;", 3, 28);
        Check.fault(CASE + "thing 1 0 0 0 1;", 3, 43);
        Check.fault(CASE + "thing 1 0 0 0 99999;", 2, 43);
        Check.fault("fee overs;", 3, 4);
        Check.fault("fee z;", 3, 4);
        Check.fault("fee a;", 3, 4);
        Check.fault("fee overz;", 3, 4);
        Check.fault("fee {;", 1, 4);
        Check.fault("fee `;", 1, 4);
        Check.fault("fee :;", 1, 4);
        Check.fault("fee 1+person;", 3, 6);
        Check.fault("fee and;", 3, 4);
        Check.fault("fee 1 and or;", 3, 10);
        Check.fault("fee 1 + not 1;", 3, 8);
        Check.fault("fee 1 < not 1;", 3, 8);
        Check.fault("fee not fee;", 3, 8);
    }

    private static void postsLooksFee() {
        Check.fault("post 5 1;post 5 1;", 4, 14);
        Check.fault("post 5 1;post 4 x", 4, 14);
        Check.fault("post 5 1;post 0 1;", 2, 14);
        Check.told("post 5 1;post 6 1;");
        Check.fault("looks 1 1;looks 1 1;", 5, 10);
        Check.fault("looks 0 0;looks", 5, 10);
        Check.fault("fee 1;fee 1;", 5, 6);
        Check.fault("fee 1;fee", 5, 6);
    }

    private static void casesThatCannot() {
        Check.fault("person 1 1 1;case 0 9 9 9 board;sharp 1 0 1 1 0;", 6, 46);
        Check.told("person 1 1 1;case 0 9 9 9 board;glass 1 0 1 1 0;");
        Check.told("person 1 1 1;case 0 9 9 9;sharp 1 0 1 1 0;");
        Check.told(CASE + "thing 1 0 6 0 0;thing 1 0 4 0 0;thing 1 0 0 0 0;");
        Check.fault(CASE + "thing 1 0 6 0 0;thing 1 0 5 0 0;", 6, 59);
        Check.fault(CASE + "coat 1 0 11 0 0;", 6, 43);
        Check.told(CASE + "case 0 9 4 0;thing 1 0 10 0 0;thing 1 0 4 0 1;");
    }

    private static void rules() {
        Check.told("fee ((((( 1 )))));");
        Check.fault("fee (((((( 1 ))))));", 2, 11);
        Check.fault("fee ((((((x))))));", 2, 10);
        Check.fault("fee (((((((", 2, 10);
        Check.fault("fee ((((((not 1", 2, 10);
        Check.fault("fee (((((()", 1, 10);
        Check.fault("fee ((((((+", 1, 10);
        Check.fault("fee ((((((", 1, 10);
        Check.fault("fee ((((((!", 1, 10);
        Check.told("fee (((((1)))))+(((((1)))));");
        Check.told("fee not not not not not not 1;");
        Check.fault("fee not not not not not not not 1;", 2, 28);
        Check.told("fee not not not not not not(not 1);");
        Check.told("fee not not not not 1 and not not not not 1 or not not not 1;");
        Check.fault("fee 12345;", 2, 4);
        Check.told("fee 9999;");
        Check.told("fee 0000;");
        Check.fault("fee 00000;", 2, 4);
        Check.fault("fee 1 12345;", 1, 6);
        Check.fault("fee 1<2<3;", 1, 7);
        Check.fault("fee 1=2<3;", 1, 7);
        Check.told("fee (1<2)<3 and 1=2;");
        Check.fault("fee (1;", 1, 6);
        Check.fault("fee (1", 1, 6);
        Check.fault("fee 1);", 1, 5);
        Check.fault("fee ();", 1, 5);
        Check.fault("fee -1;", 1, 4);
        Check.fault("fee 1 not 1;", 1, 6);
        Check.fault("fee 1 over;", 1, 6);
        Check.fault("fee 1++1;", 1, 6);
        Check.fault("fee 1 or;", 1, 8);
        Check.fault("fee 1>1;", 1, 5);
    }

    private static void theFirstAndTheLeast() {
        Check.fault("person 301 10 31;person 1 1 1", 2, 7);
        Check.fault("post 5 1;post 99999 1;", 2, 14);
        Check.fault("fee 1;fee 99999;", 5, 6);
        Check.fault("person 1 1 1;case 0 9 9 9 board;sharp 1 0 21 1 0;", 2, 42);
    }

    private static void whatStays() {
        PoundsOver x = Check.told("person 50 2 3;case 0 9 9 4;thing 1 0 1 5 0;shirt 2 0 1 3 0;post 3 1;looks 2 9;fee 7;");
        x.shift(0, 20);
        x.shift(0, 0);
        x.see(0, 2);
        x.cheap(0);
        x.share();
        x.image();
        Check.feed(x, "person 1 1 1;x");
        Check.illegal("hall(21)", () -> x.hall(21));
        Check.due("fault() behind an exception", x.fault(), -1);
        Check.due("count(9) behind an exception", x.count(9), 20);
        Check.due("hall(14)", x.hall(14), 1);
        Check.due("fault()", x.fault(), 13);
        Check.due("count(9)", x.count(9), 0);
        int[] stay = {1, 1, 2, 1, 2, 9, 1, 1, 1, 0, 1, 1, 0};
        for (int what = 0; what < 13; what++) {
            Check.due("count(" + what + ") behind a FAULT", x.count(what), stay[what]);
        }
        Check.due("person(0, 0)", x.person(0, 0), 50);
        Check.due("thing(0, 5)", x.thing(0, 5), 20);
        Check.due("fate(1)", x.fate(1), 0);
        Check.due("carrier(0)", x.carrier(0), 0);
        Check.due("restore()", x.restore(), true);
        Check.due("count(10) as in the image", x.count(10), 0);
        Check.due("fault() stays", x.fault(), 13);
        Check.feed(x, "x");
        x.hall(1);
        Check.feed(x, "person 60 1 1;case 0 5 5 5;shirt 2 0 1 3 0;");
        Check.due("hall(43)", x.hall(43), 0);
        Check.due("fault() without", x.fault(), -1);
        int[] anew = {1, 1, 1, 0, 0, 0, 0, 0, 0, 0, 1, 1, 0};
        for (int what = 0; what < 13; what++) {
            Check.due("count(" + what + ") anew", x.count(what), anew[what]);
        }
        Check.due("bill() without the rule", x.bill(), 0);
        Check.noSuch("fate(0)", () -> x.fate(0));
        Check.noSuch("carrier(0)", () -> x.carrier(0));
        Check.due("restore()", x.restore(), false);
        Check.due("undo()", x.undo(), -1);
        Check.due("hall(0)", x.hall(0), 0);
        Check.due("count(0)", x.count(0), 0);
    }

    private static void counts() {
        PoundsOver x = Check.told("person 50 2 3;person 50 2 3;case 0 9 9 4;case 0 9 9 4;case 0 9 9 4;thing 1 0 1 5 0;"
            + "post 3 1;post 4 1;post 5 1;post 6 1;looks 3 40;");
        int[] told = {2, 3, 1, 4, 3, 40, 0, 0, 0, 0, 0, 0, 0};
        for (int what = 0; what < 13; what++) {
            Check.due("count(" + what + ")", x.count(what), told[what]);
        }
        x.shift(0, 2);
        Check.due("count(6)", x.count(6), 5);
        Check.due("count(7)", x.count(7), 1);
        Check.noSuch("count(13)", () -> x.count(13));
        Check.noSuch("count(-1)", () -> x.count(-1));
        Check.noSuch("count of the least int", () -> x.count(Integer.MIN_VALUE));
    }
}
