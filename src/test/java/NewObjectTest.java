/** Promise 1: a new object has nobody and nothing. */
public final class NewObjectTest {
    public static void main(String[] args) {
        PoundsOver x = new PoundsOver();
        for (int what = 0; what <= 12; what++) {
            Check.due("count(" + what + ")", x.count(what), 0);
        }
        Check.due("NONE", PoundsOver.NONE, -1);
        Check.due("fault()", x.fault(), -1);
        Check.due("undo()", x.undo(), -1);
        Check.due("forget()", x.forget(), -1);
        Check.due("bill()", x.bill(), 0);
        Check.due("lawful()", x.lawful(), 0);
        Check.due("opened()", x.opened(), 0);
        Check.due("safe()", x.safe(), 0);
        Check.due("share()", x.share(), -1);
        Check.due("fits(0)", x.fits(0), 0);
        Check.due("fits(1)", x.fits(1), -1);
        Check.due("fits(2)", x.fits(2), 1);
        for (int what = 0; what < 3; what++) {
            Check.due("best(" + what + ")", x.best(what), -1);
        }
        Check.due("counter(7, 200, 0)", x.counter(7, 200, 0), 0);
        Check.due("counter(7, 200, 1)", x.counter(7, 200, 1), 0);
        Check.due("restore()", x.restore(), false);
        Check.noSuch("person(0, 0)", () -> x.person(0, 0));
        Check.noSuch("box(0, 0)", () -> x.box(0, 0));
        Check.noSuch("thing(0, 0)", () -> x.thing(0, 0));
        Check.noSuch("carrier(0)", () -> x.carrier(0));
        Check.noSuch("fate(0)", () -> x.fate(0));
        Check.due("the second object's bill()", new PoundsOver().bill(), 0);
        Check.end();
    }
}
