import java.util.NoSuchElementException;

/** How the class is used: README.md shows this file, and ReadmeTest looks at what it prints. */
public final class Use {
    public static void main(String[] args) {
        PoundsOver x = new PoundsOver();
        String text = "person 70 3 9; person 55 2 6;"
            + "case 0 20 30 7; case 1 20 30 5; case 1 10 20 3 board;"
            + "coat 6 1 8 40 0 4; glass 9 2 6 60 0; sharp 3 0 2 15 0;"
            + "food 4 1 3 8 0; shirt 5 0 4 20 1; shirt 3 0 4 25 0;"
            + "post 5 6; post 12 14; looks 3 20; fee over * 5 + 10 * (over < 3);";
        feed(x, text);
        System.out.println(x.hall(text.length()));   // 0, the text has no FAULT

        // What is there: the whats are numbered as in the document.
        System.out.println(x.count(2));              // 6 THINGS
        System.out.println(x.box(0, 7));             // 5 pounds OVER
        System.out.println(x.box(0, 8));             // 25, its FEE by the rule
        System.out.println(x.lawful());              // 20, CASE 0 is OVER
        System.out.println(x.bill());                // 25

        // What could be done: nothing of this moves a THING (cheap() and share() keep their rows).
        System.out.println(x.two(0, 1));             // 1, the bit of THING 0, which changes over
        System.out.println(x.opened());              // 1, the bit of CASE 0: its coat is worn
        System.out.println(x.best(0));               // 0, the THING of the best SHIFT
        System.out.println(x.best(1));               // 10, its PLACE: on PERSON 0
        System.out.println(x.best(2));               // 7, THE BILL then
        System.out.println(x.cheap(0));              // 12, two posted and no FEE
        System.out.println(x.fate(3));               // 2, THING 3 is posted by that row
        System.out.println(x.wear(0, 6, true));      // 1, the bit of the coat
        System.out.println(x.share());               // 357, the greatest LOAD by 1000, by OWN
        System.out.println(x.carrier(0));            // 0, PERSON 0 carries CASE 0
        System.out.println(x.look(0, 0));            // 135 on the mean, by 10
        System.out.println(x.look(0, 1));            // 1, to RISK it is better
        System.out.println(x.counter(7, 50, 0));     // 28 SHIFTS of 50

        // What is done, and taken back.
        System.out.println(x.may(2, 2));             // false, a sharp one on BOARD
        System.out.println(x.shift(2, 2));           // -1, so it is refused
        x.image();
        System.out.println(x.shift(0, 10));          // 0, the PLACE where the coat was
        System.out.println(x.bill());                // 7, the COST of CASE 0
        System.out.println(x.thing(0, 5));           // 10, the PLACE where the coat is
        System.out.println(x.person(0, 3));          // 4, the HEAT of what PERSON 0 wears
        System.out.println(x.lost(0));               // 1, the bit of PERSON 0, who has no shirt then
        System.out.println(x.safe());                // 4, the bit of CASE 2: it alone may be lost

        // Now CASE 0 weighs 19 pounds of 20, but that isn't sure.
        System.out.println(x.sure(0, 2));            // 2, it may GO or not
        System.out.println(x.sure(0, 3));            // 4 of
        System.out.println(x.sure(0, 4));            // 5 is how likely it GOES
        System.out.println(x.weigh(0, 0));           // 1, the glass: to weigh it tells the most

        System.out.println(x.undo());                // 0 ACTS are left
        System.out.println(x.restore());             // true, all is as it was by image()
        System.out.println(x.undo());                // -1, PoundsOver.NONE: there is none to undo
        System.out.println(x.count(11));             // 1 ACT was refused

        // What was SEEN: which one SHIFT makes it so?
        System.out.println(x.see(2, 9));             // 1 is SEEN: CASE 2 weighs 9 pounds
        System.out.println(x.fits(0));               // 1 SHIFT
        System.out.println(x.fits(1));               // 102, THING 1 into CASE 2
        System.out.println(x.forget());              // 0 are SEEN now

        // A text with a FAULT only counts in the STATUS; a number of nothing is an exception.
        feed(x, "case 0 20 30 7; thing 5 0 1 9 0;");
        System.out.println(x.hall(32));              // 3, PERSON 0 isn't told ahead
        System.out.println(x.fault());               // 5, where that stands
        System.out.println(x.bill());                // 25, as it was
        try {
            x.box(3, 5);
        } catch (NoSuchElementException e) {
            System.out.println("no CASE 3");         // no CASE 3
        }
    }

    /** Twenty bytes a call, four in each number, the highest first; blanks fill up the last twenty. */
    static void feed(PoundsOver x, String text) {
        for (int i = 0; i < text.length(); i += 20) {
            x.feed(four(text, i), four(text, i + 4), four(text, i + 8), four(text, i + 12), four(text, i + 16));
        }
    }

    private static int four(String text, int from) {
        int number = 0;
        for (int i = from; i < from + 4; i++) {
            number = number << 8 | (i < text.length() ? text.charAt(i) & 255 : ' ');
        }
        return number;
    }
}
