/** Promise 11: count. */
public final class CountTest {
    private static final Check check = new Check("CountTest");

    public static void main(String[] args) {
        countsEachThing();
        answersWhileDown();
        refusesOtherNumbers();
        check.end();
    }

    private static void countsEachThing() {
        check.under("Something of the host: 0 the time, 1 how many own addresses, 2 routers, 3 "
                + "on-link prefixes, 4 neighbours, 5 paths there are, 6 how many were sent in "
                + "all, 7 packets lost, 8 packets taken, 9 what is in the bucket, 10 the link's "
                + "size, 11 whether it is down (1, else 0).");
        LinkHost host = Hosts.ready(7);
        host.prefix(11, 3, 1000, 1000);
        host.prefix(12, 1, 1000, 1000);
        host.prefix(13, 1, 1000, 1000);
        host.prefix(14, 2, 1000, 1000);
        host.router(20, 3, 1000, 33);
        host.send(Hosts.local(21), 5);
        host.tick(3);
        for (int id = 30; id < 34; id++) {
            host.smaller(Hosts.address(40, id), 20);
        }
        for (int id = 50; id < 54; id++) {
            host.asked(Hosts.local(id), Hosts.local(7), 3);
        }
        for (int i = 0; i < 6; i++) {
            host.header(6, 0);
            host.come(0, Hosts.GROUP);
        }
        host.header(7, 0);
        host.come(Hosts.local(50), Hosts.local(7));
        host.header(7, 0);
        host.come(Hosts.local(50), Hosts.local(7));
        int[] wanted = {5, 3, 1, 3, 5, 4, 15, 1, 6, 1, 33, 0};
        for (int which = 0; which < wanted.length; which++) {
            check.due("count(" + which + ")", host.count(which), wanted[which]);
        }
    }

    private static void answersWhileDown() {
        check.under("11 whether it is down (1, else 0).");
        LinkHost down = Hosts.down(7);
        check.due("down", down.count(11), 1);
        check.due("own addresses", down.count(1), 1);
        check.due("sent", down.count(6), 1);
    }

    private static void refusesOtherNumbers() {
        check.under("IllegalArgumentException: any other number.");
        LinkHost host = Hosts.ready(7);
        LinkHost down = Hosts.down(7);
        int[] wrong = {-1, 12, Integer.MIN_VALUE, Integer.MAX_VALUE};
        for (int which : wrong) {
            check.badArgument("count(" + which + ")", () -> host.count(which));
            check.badArgument("count(" + which + ") while down", () -> down.count(which));
        }
    }
}
