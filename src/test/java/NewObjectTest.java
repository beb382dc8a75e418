/** Promise 1. */
public final class NewObjectTest {
    public static void main(String[] args) {
        SevenAsks x = new SevenAsks();
        Check.due("NONE", SevenAsks.NONE, -1);
        for (int what = 0; what <= 11; what++) {
            Check.due("count " + what, x.count(what), what == 9 ? 3 : 0);
        }
        for (int reason = 1; reason <= 4; reason++) {
            Check.due("refused " + reason, x.refused(reason), 0);
        }
        for (int bed = 0; bed < 4; bed++) {
            Check.bedDue(x, bed, "............");
        }
        for (int lodger = 0; lodger < 10; lodger++) {
            for (int what = 0; what <= 6; what++) {
                Check.due("lodgerOf " + lodger + ", " + what, x.lodgerOf(lodger, what), what == 0 ? lodger : 0);
            }
        }
        emptySlotsAndBuffer(x);
        objectsAreApart();
        Check.end();
    }

    private static void emptySlotsAndBuffer(SevenAsks x) {
        Check.thrown(x, "goBack(0)", IllegalStateException.class, () -> x.goBack(0));
        Check.thrown(x, "goBack(1)", IllegalStateException.class, () -> x.goBack(1));
        Check.thrown(x, "undo()", IllegalStateException.class, () -> x.undo());
        Check.thrown(x, "run()", IllegalArgumentException.class, () -> x.run());
        Check.due("firstError", x.firstError(), 0);
        Check.due("clearBuffer", x.clearBuffer(), 0);
    }

    private static void objectsAreApart() {
        SevenAsks one = new SevenAsks();
        SevenAsks other = new SevenAsks();
        one.ask(5, 0, 3);
        one.append('h');
        one.keep(0);
        Check.due("the other's digest", other.digest(), new SevenAsks().digest());
    }
}
