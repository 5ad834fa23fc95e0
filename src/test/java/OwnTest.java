/** Promises 12 and 13: own and until. */
public final class OwnTest {
    private static final Check check = new Check("OwnTest");

    public static void main(String[] args) {
        tellsEachState();
        tellsTheEndOfLives();
        refusesOtherIndices();
        check.end();
    }

    private static void tellsEachState() {
        check.under("have a STATE: 1 TENTATIVE, 2 PREFERRED, 3 DEPRECATED, 4 DUPLICATE.");
        LinkHost host = Hosts.ready(7);
        host.prefix(250, 2, 100, 0);
        host.prefix(3, 2, 100, 100);
        host.told(Hosts.address(3, 7), 1, 0);
        host.tick(2);
        host.prefix(4, 2, 100, 100);
        check.due("preferred", host.own(0), 2 * 65536 + 256 + 7);
        check.due("deprecated", host.own(1), 3 * 65536 + 250 * 256 + 7);
        check.due("duplicate", host.own(2), 4 * 65536 + 3 * 256 + 7);
        check.due("tentative", host.own(3), 65536 + 4 * 256 + 7);
    }

    private static void tellsTheEndOfLives() {
        check.under("When the valid life of own address i ends, -1 for never.");
        LinkHost host = Hosts.ready(7);
        host.prefix(5, 2, 999, 10);
        host.tick(3);
        host.prefix(6, 2, 1, 1);
        host.prefix(7, 2, 1000, 1);
        check.due("local", host.until(0), -1);
        check.due("999", host.until(1), 2 + 999);
        check.due("1", host.until(2), 5 + 1);
        check.due("1000", host.until(3), -1);
        host.told(Hosts.address(7, 7), 1, 0);
        check.due("duplicate", host.until(3), -1);
    }

    private static void refusesOtherIndices() {
        check.under("IndexOutOfBoundsException: there is none.");
        LinkHost host = Hosts.ready(7);
        host.prefix(5, 2, 3, 3);
        int[] wrong = {-1, 2, Integer.MIN_VALUE, Integer.MAX_VALUE};
        for (int i : wrong) {
            check.badIndex("own(" + i + ")", () -> host.own(i));
            check.badIndex("until(" + i + ")", () -> host.until(i));
        }
        host.tick(3);
        check.badIndex("one that was taken away", () -> host.own(1));
        check.badIndex("its end", () -> host.until(1));
        check.due("while down", Hosts.down(7).until(0), -1);
    }
}
