/** Promises 14 to 17: between two CASES, which are OPENED, what to pay for, leave and post of one. */
public final class CasesTest {
    public static void main(String[] args) {
        two();
        opened();
        spent();
        cheap();
        Check.end();
    }

    private static void two() {
        PoundsOver x = Check.told("person 9 9 9;case 0 10 9 0;case 0 5 9 0;case 0 1 9 0 board;"
            + "thing 6 0 2 0 0;thing 3 0 2 0 0;thing 3 0 2 0 0;sharp 1 0 2 0 1;thing 2 0 2 0 2;");
        Check.due("two(0, 1)", x.two(0, 1), 2);
        Check.due("two(1, 0)", x.two(1, 0), 2);
        Check.due("two(0, 2)", x.two(0, 2), -1);
        Check.due("two(1, 2)", x.two(1, 2), 16);
        Check.noSuch("two(0, 3)", () -> x.two(0, 3));
        Check.noSuch("two(-1, 0)", () -> x.two(-1, 0));
        Check.noSuch("two(3, 3)", () -> x.two(3, 3));
        Check.illegal("two(2, 2)", () -> x.two(2, 2));
        x.shift(0, 20);
        Check.due("two(0, 1) as it is", x.two(0, 1), 0);
        // The lighter one could go over alone but for the room: the two are changed.
        PoundsOver room = Check.told("person 9 9 9;case 0 10 9 0;case 0 10 4 0;thing 8 0 4 0 0;thing 4 0 2 0 0;thing 1 0 4 0 1;");
        Check.due("two with little room", room.two(0, 1), 5);
        PoundsOver board = Check.told("person 9 9 9;case 0 10 9 0;case 0 10 9 0 board;sharp 6 0 0 0 0;thing 6 0 0 0 0;");
        Check.due("two with BOARD", board.two(0, 1), 2);
        PoundsOver one = Check.told("person 9 9 9;case 0 10 9 0;case 0 10 9 0 board;sharp 6 0 0 0 0;sharp 6 0 0 0 0;");
        Check.due("two sharp ones with BOARD", one.two(0, 1), -1);
        // THINGS on PEOPLE or in a third CASE don't count.
        PoundsOver third = Check.told("person 9 9 9;case 0 5 9 0;case 0 0 9 0;case 0 50 9 0;thing 6 0 0 0 0;thing 1 0 0 0 2;");
        Check.due("two(0, 1) with none that fits", third.two(0, 1), -1);
        Check.due("two(0, 2)", third.two(0, 2), 1);
        PoundsOver least = Check.told("person 9 9 9;case 0 5 9 0;case 0 5 9 0;thing 4 0 0 0 0;thing 3 0 0 0 0;");
        Check.due("the least bits of as few", least.two(0, 1), 1);
    }

    private static void opened() {
        PoundsOver goes = Check.told("person 9 9 9;case 0 10 9 0;thing 1 0 0 0 0;");
        Check.due("opened() as all GO", goes.opened(), 0);
        PoundsOver none = Check.told("person 9 9 9;case 0 10 9 0;case 0 3 9 0;thing 11 0 0 0 0;");
        Check.due("opened() none", none.opened(), -1);
        PoundsOver x = Check.told("person 9 9 5;person 9 9 0;case 0 10 9 9;case 1 10 9 4;case 1 10 9 5;case 0 20 9 20;"
            + "thing 6 0 0 0 0;thing 6 0 0 0 0;coat 8 0 0 0 1 6;");
        Check.due("opened() the cheaper two by one more", x.opened(), 5);
        x.shift(2, 3);
        Check.due("opened() with two opened already", x.opened(), 3);
        // A coat from a CASE in the set goes on its owner, if he bears it by what he wears.
        String coats = "person 9 9 5;case 0 5 9 1;case 0 50 9 9;coat 6 0 0 0 0 3;coat 1 0 0 0 1 3;";
        PoundsOver worn = Check.told(coats);
        Check.due("opened() with a coat to wear", worn.opened(), 1);
        worn.shift(1, 10);
        Check.due("opened() with one worn already", worn.opened(), 3);
        PoundsOver other = Check.told("person 9 9 0;person 9 9 9;case 0 5 9 1;case 1 1 0 2;coat 6 0 1 0 0 3;");
        Check.due("opened() with another's CASE", other.opened(), 3);
        PoundsOver pocket = Check.told("person 9 9 9;case 0 5 9 1;thing 6 0 1 0 0;");
        Check.due("opened() puts nothing in POCKETS", pocket.opened(), -1);
        PoundsOver few = Check.told("person 9 9 9;case 0 5 9 0;case 0 5 9 0;case 0 6 9 0;thing 6 0 0 0 0;");
        Check.due("the fewest, then the least", few.opened(), 5);
        PoundsOver like = Check.told("person 9 9 9;case 0 5 9 3;case 0 6 9 3;case 0 6 9 3;thing 6 0 0 0 0;");
        Check.due("the least bits of like ones", like.opened(), 3);
        PoundsOver cheaper = Check.told("person 9 9 9;case 0 5 9 3;case 0 6 9 4;case 0 6 9 3;thing 6 0 0 0 0;");
        Check.due("the least COSTS", cheaper.opened(), 5);
        PoundsOver more = Check.told("person 9 9 9;case 0 5 9 0;case 0 6 9 9;case 0 3 9 1;case 0 3 9 1;"
            + "thing 3 0 0 0 0;thing 3 0 0 0 0;thing 0 0 0 0 1;");
        Check.due("the least COSTS ahead of the fewest", more.opened(), 5);
        PoundsOver sum = Check.told("person 9 9 9;case 0 3 9 0;case 0 6 9 2;case 0 3 9 0;case 0 3 9 1;" + "thing 3 0 0 0 0;".repeat(3));
        Check.due("COSTS and how many aren't one sum", sum.opened(), 13);
        PoundsOver zero = Check.told("person 9 9 9;case 0 6 9 9;case 0 5 9 1;case 0 6 9 1;thing 6 0 0 0 1;");
        Check.due("the COST of CASE 0 counts", zero.opened(), 6);
        PoundsOver holds = Check.told("person 9 9 9;case 0 5 9 0;case 0 9 3 0;case 0 9 9 9 board;sharp 6 0 4 0 0;");
        Check.due("opened() with HOLDS and BOARD", holds.opened(), -1);
        PoundsOver swap = Check.told("person 9 9 9;case 0 10 9 1;case 0 12 4 1;thing 12 0 4 0 0;thing 10 0 4 0 1;");
        Check.due("opened() changed over", swap.opened(), 3);
    }

    private static void spent() {
        String nine = "thing 1 0 0 0 0;".repeat(9);
        PoundsOver over = Check.told("person 9 9 9;case 0 8 9 1;case 0 9 9 1;" + nine);
        Check.due("opened() with nine THINGS", over.opened(), -2);
        PoundsOver goes = Check.told("person 9 9 9;case 0 9 9 1;case 0 9 9 1;" + nine);
        Check.due("opened() with nine that GO", goes.opened(), 0);
        PoundsOver eight = Check.told("person 9 9 9;case 0 7 9 1;case 0 9 9 1;" + nine.substring(16));
        Check.due("opened() with eight", eight.opened(), 3);
        // The CASE with nine is asked though another one is OVER whatever it does.
        PoundsOver hopeless = Check.told("person 9 9 9;case 0 9 9 1;case 0 0 9 1;thing 1 0 0 0 1;" + nine);
        Check.due("opened() whatever else", hopeless.opened(), -2);
        // A cheap set is found ahead; what is dear isn't asked.
        PoundsOver found = Check.told("person 9 9 9;case 0 5 9 1;case 0 9 9 1;case 0 99 9 9;thing 6 0 0 0 0;"
            + nine.replace("0;", "2;"));
        Check.due("opened() found ahead", found.opened(), 3);
        // The dearer set has lesser bits and is asked first.
        PoundsOver first = Check.told("person 9 9 9;case 0 5 9 0;case 0 99 9 9;case 0 99 9 1;thing 6 0 0 0 0;"
            + nine.replace("0;", "1;"));
        Check.due("opened() asked first", first.opened(), -2);
    }

    private static void cheap() {
        PoundsOver x = Check.told("person 9 9 9;case 0 5 20 3;case 0 9 9 3;thing 8 0 2 4 0;thing 3 0 2 30 0;food 2 0 2 7 1;post 3 2;");
        Check.noSuch("fate(0) with none kept", () -> x.fate(0));
        Check.due("cheap(0)", x.cheap(0), 4);
        Check.due("fate(0)", x.fate(0), 1);
        Check.due("fate(1)", x.fate(1), 0);
        Check.noSuch("fate(2) of another CASE", () -> x.fate(2));
        Check.noSuch("fate(3)", () -> x.fate(3));
        Check.noSuch("fate(-1)", () -> x.fate(-1));
        Check.noSuch("fate(32)", () -> x.fate(32));
        Check.noSuch("fate(-32)", () -> x.fate(-32));
        Check.noSuch("cheap(2)", () -> x.cheap(2));
        Check.noSuch("cheap(-1)", () -> x.cheap(-1));
        Check.due("fate(0) stays", x.fate(0), 1);
        x.shift(0, 20);
        Check.due("fate(0) stays though it is gone", x.fate(0), 1);
        Check.due("cheap(0) again", x.cheap(0), 0);
        Check.noSuch("fate(0), which wasn't in it", () -> x.fate(0));
        Check.due("fate(1)", x.fate(1), 0);
        Check.due("cheap(1)", x.cheap(1), 0);
        Check.noSuch("fate(1) of the CASE ahead", () -> x.fate(1));
        Check.due("fate(2)", x.fate(2), 0);
        PoundsOver post = Check.told("person 9 9 9;case 0 5 20 3;thing 6 0 2 4 0;thing 6 0 2 30 0;thing 6 0 0 2 0;post 6 2;fee 5;");
        Check.due("the FEE is less", post.cheap(0), 5);
        Check.due("fate(0)", post.fate(0), 0);
        // Thrown away at 2 is ahead of posted at 2; 0 and 1 are posted.
        PoundsOver like = Check.told("person 9 9 9;case 0 5 20 3;thing 6 0 2 4 0;thing 6 0 2 30 0;thing 6 0 0 2 0;post 6 2;fee 50;");
        Check.due("all gone", like.cheap(0), 6);
        Check.due("fate(0)", like.fate(0), 2);
        Check.due("fate(1)", like.fate(1), 2);
        Check.due("fate(2)", like.fate(2), 1);
        // Of like rows the first THING stays.
        PoundsOver row = Check.told("person 9 9 9;case 0 6 20 3;thing 6 0 2 4 0;thing 6 0 2 4 0;thing 6 0 0 4 0;fee 50;");
        Check.due("one stays", row.cheap(0), 8);
        Check.due("fate(0)", row.fate(0), 0);
        Check.due("fate(1)", row.fate(1), 1);
        Check.due("fate(2)", row.fate(2), 1);
        PoundsOver count = Check.told("person 9 9 9;case 0 5 20 3;thing 6 0 2 4 0;thing 0 0 2 3 0;fee things*10;");
        Check.due("FEE by THINGS that stay", count.cheap(0), 4);
        PoundsOver lessThings = Check.told("person 9 9 9;case 0 5 20 3;thing 6 0 2 400 0;thing 0 0 2 3 0;fee things*10;");
        Check.due("FEE with one THING less", lessThings.cheap(0), 13);
        Check.due("fate(1)", lessThings.fate(1), 1);
        PoundsOver tie = Check.told("person 9 9 9;case 0 5 20 3;thing 7 0 2 20 0;");
        Check.due("paying is as dear as throwing", tie.cheap(0), 20);
        Check.due("it stays", tie.fate(0), 0);
        PoundsOver twelve = Check.told("person 9 9 9;case 0 11 60 3;" + "thing 1 0 2 9 0;".repeat(11) + "thing 1 0 2 8 0;");
        Check.due("cheap of twelve", twelve.cheap(0), 8);
        for (int t = 0; t < 12; t++) {
            Check.due("fate(" + t + ") of twelve", twelve.fate(t), t == 11 ? 1 : 0);
        }
        PoundsOver empty = Check.told("person 9 9 9;case 0 5 20 3;case 0 9 9 9;thing 7 0 2 20 0;");
        Check.due("an empty CASE", empty.cheap(1), 0);
        Check.noSuch("fate(0)", () -> empty.fate(0));
    }
}
