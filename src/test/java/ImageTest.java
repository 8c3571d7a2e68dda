/** Promises 31 and 32: an IMAGE, and all as it was then. */
public final class ImageTest {
    public static void main(String[] args) {
        PoundsOver x = Check.told("person 60 3 9;case 0 20 10 7;case 0 15 8 3;thing 12 0 4 50 0;shirt 2 0 1 30 0;");
        Check.due("restore() without", x.restore(), false);
        x.shift(0, 1);
        x.shift(0, 99);
        x.see(0, 5);
        x.see(0, -5);
        x.image();
        Check.due("count(11)", x.count(11), 1);
        x.shift(1, 20);
        x.undo();
        x.undo();
        x.shift(1, 10);
        x.shift(1, 99);
        x.forget();
        x.see(1, 9);
        x.see(1, 8);
        x.see(1, 1000);
        x.cheap(0);
        x.share();
        Check.feed(x, "x");
        x.hall(1);
        Check.feed(x, "person");
        for (int again = 0; again < 2; again++) {
            Check.due("restore()", x.restore(), true);
            Check.due("place of 0", x.thing(0, 5), 1);
            Check.due("place of 1", x.thing(1, 5), 0);
            int[] counts = {1, 2, 2, 0, 0, 0, 3, 1, 1, 20, 0, 1, 1};
            for (int what = 0; what < 13; what++) {
                Check.due("count(" + what + ") restored", x.count(what), counts[what]);
            }
            x.see(0, 2);
            Check.due("what was SEEN", x.fits(2), 0);
            x.forget();
            x.forget();
            Check.due("undo() of what is restored", x.undo(), 0);
            Check.due("place of 0", x.thing(0, 5), 0);
            Check.due("opened", x.count(6), 0);
            Check.due("the fault's place stays", x.fault(), 0);
            Check.due("the rows stay", x.fate(0) + x.carrier(0), 0);
            x.shift(1, 20);
            x.see(1, 1);
            x.see(1, 2);
        }
        x.image();
        x.undo();
        Check.due("restore() of another image", x.restore(), true);
        Check.due("place of 1", x.thing(1, 5), 20);
        Check.due("undo()", x.undo(), 0);
        Check.due("SEEN", x.count(8), 2);
        PoundsOver nothing = new PoundsOver();
        nothing.image();
        Check.due("restore() of nothing", nothing.restore(), true);
        Check.feed(nothing, "person 1 1 1;");
        nothing.hall(13);
        Check.due("restore() behind a HALL", nothing.restore(), false);
        Check.end();
    }
}
