/** Promises 9 to 13: where a THING may come, SHIFTS, what is UNDONE, THE BILL, LAWFUL. */
public final class ShiftTest {
    // 0 thing, 1 coat, 2 shirt, 3 sharp, 4 food, 5 glass, 6 small coat
    private static final String HALL = "person 60 3 9;person 40 1 0;case 0 20 10 7;case 1 15 5 3 board;case 0 50 20 1;"
        + "thing 12 0 4 50 0;coat 9 0 3 80 0 5;shirt 2 0 1 30 0;sharp 5 0 1 10 2;food 4 0 2 5 1;glass 1 0 3 7 2;"
        + "coat 1 0 1 1 2 6;post 5 12;post 10 30;";

    public static void main(String[] args) {
        may();
        shifts();
        fortyActs();
        bills();
        lawful();
        Check.end();
    }

    private static void may(PoundsOver x, int thing, int place, boolean want) {
        Check.due("may(" + thing + ", " + place + ")", x.may(thing, place), want);
        Check.due("count(11) behind may", x.count(11), 0);
    }

    private static void may() {
        PoundsOver x = Check.told(HALL);
        for (int place : new int[] {-1, 0, 3, 4, 5, 9, 12, 13, 14, 19, 23, 30, Integer.MAX_VALUE, Integer.MIN_VALUE}) {
            may(x, 0, place, false);
        }
        may(x, 0, 1, false);
        may(x, 1, 1, true);
        may(x, 2, 1, true);
        may(x, 3, 1, false);
        may(x, 3, 0, true);
        may(x, 5, 0, false);
        may(x, 0, 2, true);
        may(x, 0, 10, false);
        may(x, 2, 10, true);
        may(x, 2, 11, true);
        may(x, 4, 10, true);
        may(x, 4, 11, false);
        may(x, 5, 10, false);
        may(x, 1, 10, true);
        may(x, 1, 11, false);
        may(x, 6, 11, false);
        may(x, 0, 20, true);
        may(x, 0, 21, false);
        may(x, 1, 21, true);
        may(x, 0, 22, false);
        may(x, 4, 22, true);
        Check.due("shift(1, 10)", x.shift(1, 10), 0);
        may(x, 6, 10, false);
        may(x, 1, 10, false);
        may(x, 1, 0, true);
        Check.due("shift(4, 10)", x.shift(4, 10), 1);
        may(x, 3, 10, true);
        Check.due("shift(3, 10)", x.shift(3, 10), 2);
        may(x, 2, 10, false);
        may(x, 4, 22, true);
        for (int gone = 20; gone <= 22; gone++) {
            Check.due("shift(4, " + gone + ")", x.shift(4, gone), 10);
            for (int place : new int[] {0, 1, 2, 10, 11, 20, 21, 22}) {
                may(x, 4, place, false);
            }
            Check.due("undo()", x.undo(), 3);
        }
        Check.noSuch("may(7, 0)", () -> x.may(7, 0) ? 1 : 0);
        Check.noSuch("may(-1, 0)", () -> x.may(-1, 0) ? 1 : 0);
        PoundsOver lone = Check.told("person 1 1 1;case 0 9 9 9;thing 0 0 0 0 0;");
        may(lone, 0, 21, false);
        may(lone, 0, 10, true);
    }

    private static void shifts() {
        PoundsOver x = Check.told(HALL);
        Check.due("shift to where it is", x.shift(0, 0), -1);
        Check.due("count(11)", x.count(11), 1);
        Check.due("shift to no place", x.shift(0, 5), -1);
        Check.due("count(11)", x.count(11), 2);
        Check.due("count(7)", x.count(7), 0);
        Check.due("count(6)", x.count(6), 0);
        Check.noSuch("shift(7, 0)", () -> x.shift(7, 0));
        Check.noSuch("shift(-1, 0)", () -> x.shift(-1, 0));
        Check.due("count(11) behind an exception", x.count(11), 2);
        Check.due("shift(2, 10)", x.shift(2, 10), 0);
        Check.due("count(6)", x.count(6), 1);
        Check.due("shift(2, 11)", x.shift(2, 11), 10);
        Check.due("count(6)", x.count(6), 1);
        Check.due("shift(2, 1)", x.shift(2, 1), 11);
        Check.due("count(6)", x.count(6), 3);
        Check.due("shift(2, 0)", x.shift(2, 0), 1);
        Check.due("shift(2, 2)", x.shift(2, 2), 0);
        Check.due("count(6)", x.count(6), 7);
        Check.due("count(7)", x.count(7), 5);
        int[] places = {0, 1, 11, 10, 0};
        int[] opened = {3, 3, 1, 1, 0};
        for (int i = 0; i < 5; i++) {
            Check.due("undo()", x.undo(), 4 - i);
            Check.due("place " + i, x.thing(2, 5), places[i]);
            Check.due("opened " + i, x.count(6), opened[i]);
        }
        Check.due("undo()", x.undo(), -1);
        Check.due("count(11)", x.count(11), 2);
    }

    private static void fortyActs() {
        PoundsOver x = Check.told(HALL);
        Check.due("shift(3, 20)", x.shift(3, 20), 2);
        for (int i = 0; i < 40; i++) {
            Check.due("shift " + i, x.shift(2, i % 2 == 0 ? 1 : 0), i % 2);
            Check.due("count(7)", x.count(7), Math.min(40, i + 2));
        }
        for (int i = 39; i >= 0; i--) {
            Check.due("undo()", x.undo(), i);
            Check.due("place", x.thing(2, 5), i % 2);
        }
        Check.due("undo()", x.undo(), -1);
        Check.due("the first ACT is forgotten", x.thing(3, 5), 20);
        Check.due("opened by it", x.count(6), 4);
    }

    private static void bills() {
        PoundsOver x = Check.told(HALL);
        Check.due("bill()", x.bill(), 30);
        x.shift(2, 2);
        Check.due("bill() with two opened", x.bill(), 10 + 8);
        x.shift(1, 21);
        Check.due("bill() with a dear post", x.bill(), 8 + 30);
        x.shift(3, 21);
        Check.due("bill() with a cheap post", x.bill(), 8 + 42);
        x.shift(4, 20);
        Check.due("bill() with one thrown away", x.bill(), 8 + 42 + 3 + 5);
        x.undo();
        x.shift(4, 22);
        Check.due("bill() with one eaten", x.bill(), 8 + 42 + 3);
        PoundsOver two = Check.told("person 1 1 1;case 0 1 9 5;case 0 2 9 5;thing 3 0 0 0 0;thing 3 0 0 0 1;fee over+1;");
        Check.due("bill() of two", two.bill(), 5);
    }

    private static void lawful() {
        PoundsOver x = Check.told(HALL);
        Check.due("lawful()", x.lawful(), 20);
        x.shift(1, 10);
        Check.due("lawful() with a coat by the glass", x.lawful(), 0);
        x.shift(6, 20);
        Check.due("lawful() without", x.lawful(), 12);
        x.shift(2, 2);
        Check.due("lawful() with a shirt", x.lawful(), 0);
        PoundsOver two = Check.told("person 1 1 1;case 0 9 9 5;case 0 2 9 5;glass 3 0 0 0 0;glass 3 0 0 0 1;shirt 1 0 0 0 1;");
        Check.due("OVER is ahead of glass", two.lawful(), 21);
        PoundsOver on = Check.told("person 1 9 1;case 0 9 9 5;case 0 9 9 5;glass 3 0 0 0 0;glass 3 0 0 0 1;");
        Check.due("the least CASE with a glass", on.lawful(), 10);
        on.shift(0, 10);
        Check.due("glass on a PERSON", on.lawful(), 11);
    }
}
