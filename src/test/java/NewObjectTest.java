/** Promise 1: a new object. */
public final class NewObjectTest {
    private static final Check check = new Check("NewObjectTest");

    public static void main(String[] args) {
        formsItsLocalAddress();
        keepsTheIdInItsRange();
        startsWithNothingElse();
        check.end();
    }

    private static void formsItsLocalAddress() {
        check.under("time 0, its local address is formed.");
        LinkHost host = new LinkHost(7);
        check.due("time", host.count(0), 0);
        check.due("own addresses", host.count(1), 1);
        check.due("local address", host.own(0), Hosts.owned(Hosts.TENTATIVE, Hosts.local(7)));
        check.due("its valid life", host.until(0), -1);
        check.due("sent", host.count(6), 1);
        check.out("probe", host, 0, 1, Hosts.GROUP, Hosts.local(7));
    }

    private static void keepsTheIdInItsRange() {
        check.under("A host with an id (at least 1, at most 254)");
        int[][] idsAndWanted = {
            {1, 1}, {254, 254}, {0, 1}, {-1, 1}, {255, 254}, {300, 254},
            {Integer.MIN_VALUE, 1}, {Integer.MAX_VALUE, 254},
        };
        for (int[] pair : idsAndWanted) {
            LinkHost host = new LinkHost(pair[0]);
            check.due("id " + pair[0], host.own(0),
                    Hosts.owned(Hosts.TENTATIVE, Hosts.local(pair[1])));
        }
    }

    private static void startsWithNothingElse() {
        check.under("A host with an id (at least 1, at most 254); time 0, its local address is "
                + "formed.");
        LinkHost host = new LinkHost(7);
        for (int which = 2; which <= 5; which++) {
            check.due("row " + which, host.count(which), 0);
        }
        check.due("lost", host.count(7), 0);
        check.due("taken", host.count(8), 0);
        check.due("bucket", host.count(9), 3);
        check.due("link's size", host.count(10), 40);
        check.due("down", host.count(11), 0);
        check.due("headers", host.header(6, 0), 1);
    }
}
