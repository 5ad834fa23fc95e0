/** Promise 9: header. */
public final class HeaderTest {
    private static final Check check = new Check("HeaderTest");

    public static void main(String[] args) {
        countsHeaders();
        refusesASeventh();
        refusesWrongArguments();
        staysWhileDown();
        check.end();
    }

    private static void countsHeaders() {
        check.under("One more header of the packet that will come next: how many there are.");
        LinkHost host = Hosts.ready(7);
        check.due("first", host.header(0, 0), 1);
        check.due("second", host.header(9, 3), 2);
        host.come(0, Hosts.GROUP);
        check.due("first again", host.header(1, 0), 1);
    }

    private static void refusesASeventh() {
        check.under("IllegalStateException: there are 6.");
        LinkHost host = Hosts.ready(7);
        for (int i = 1; i <= 6; i++) {
            check.due("header " + i, host.header(3, 0), i);
        }
        check.badState("a seventh", () -> host.header(3, 0));
        check.badArgument("a wrong seventh", () -> host.header(10, 0));
        check.due("six are looked at", host.come(0, Hosts.GROUP), 6);
        check.due("first again", host.header(3, 0), 1);
    }

    private static void refusesWrongArguments() {
        check.under("IllegalArgumentException: there is no such kind or number");
        LinkHost host = Hosts.ready(7);
        int[][] wrong = {
            {-1, 0}, {10, 0}, {0, -1}, {0, 4}, {Integer.MIN_VALUE, 0}, {0, Integer.MAX_VALUE},
        };
        for (int[] w : wrong) {
            check.badArgument("header(" + w[0] + ", " + w[1] + ")", () -> host.header(w[0], w[1]));
        }
        check.due("none was added", host.header(0, 0), 1);
    }

    private static void staysWhileDown() {
        check.under("IllegalArgumentException: there is no such kind or number; "
                + "IllegalStateException: there are 6.");
        LinkHost down = Hosts.down(7);
        check.due("first", down.header(6, 0), 1);
        check.due("second", down.header(6, 0), 2);
    }
}
