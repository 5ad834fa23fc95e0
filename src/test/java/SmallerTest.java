/** Promises 8 and 15: smaller and sizeTo. */
public final class SmallerTest {
    private static final Check check = new Check("SmallerTest");
    private static final int FAR = Hosts.address(20, 9);

    public static void main(String[] args) {
        makesAPath();
        changesAPath();
        pathsEnd();
        theLinkSizeLimitsAll();
        keepsFourPaths();
        answersAnyNumber();
        refusesWrongArguments();
        refusesWhileDown();
        check.end();
    }

    private static void makesAPath() {
        check.under("PATHS: heard that packets to an address may have a size m: below 8 nothing; "
                + "else, if the size that a packet may have now is more than m, a path to that "
                + "address is made");
        LinkHost host = Hosts.ready(7);
        host.smaller(FAR, 40);
        check.due("not smaller", host.count(5), 0);
        host.smaller(FAR, 7);
        host.smaller(FAR, 0);
        check.due("below 8", host.count(5), 0);
        check.due("link's size", host.sizeTo(FAR), 40);
        host.smaller(FAR, 39);
        check.due("a path", host.count(5), 1);
        check.due("its size", host.sizeTo(FAR), 39);
        check.due("not another's", host.sizeTo(FAR + 1), 40);
        host.smaller(FAR, 8);
        check.due("8", host.sizeTo(FAR), 8);
        check.due("nothing is sent", host.count(6), 2);
    }

    private static void changesAPath() {
        check.under("or that there is has the size m, for 30 ticks from now on.");
        LinkHost host = Hosts.ready(7);
        host.smaller(FAR, 20);
        host.tick(10);
        host.smaller(FAR, 20);
        host.smaller(FAR, 21);
        host.smaller(FAR, 7);
        check.due("not smaller", host.sizeTo(FAR), 20);
        host.tick(19);
        check.due("29 ticks", host.sizeTo(FAR), 20);
        host.smaller(FAR, 19);
        check.due("smaller", host.sizeTo(FAR), 19);
        check.due("one path", host.count(5), 1);
        host.tick(29);
        check.due("for 30 ticks more", host.sizeTo(FAR), 19);
        host.tick(1);
        check.due("its end", host.sizeTo(FAR), 40);
        check.due("no path", host.count(5), 0);
    }

    private static void pathsEnd() {
        check.under("for 30 ticks from now on.");
        LinkHost host = Hosts.ready(7);
        host.smaller(FAR, 20);
        host.tick(29);
        host.smaller(FAR, 25);
        check.due("29 ticks", host.count(5), 1);
        host.tick(1);
        check.due("30 ticks", host.count(5), 0);
    }

    private static void theLinkSizeLimitsAll() {
        check.under("The size that a packet to an address may have: the path's, or the link's.");
        LinkHost host = Hosts.ready(7);
        host.smaller(FAR, 30);
        host.router(10, 3, 0, 20);
        check.due("the link's is less", host.sizeTo(FAR), 20);
        host.smaller(FAR, 25);
        host.smaller(FAR, 20);
        check.due("a path of 30 still", host.sizeTo(FAR), 20);
        host.router(10, 3, 0, 40);
        check.due("the path's is less", host.sizeTo(FAR), 30);
        host.router(10, 3, 0, 20);
        host.smaller(FAR, 19);
        host.router(10, 3, 0, 40);
        check.due("a path of 19", host.sizeTo(FAR), 19);
    }

    private static void keepsFourPaths() {
        check.under("when one more comes to a full row, the first one goes");
        LinkHost host = Hosts.ready(7);
        for (int id = 1; id <= 4; id++) {
            host.smaller(Hosts.address(20, id), 20 + id);
        }
        host.smaller(Hosts.address(20, 1), 20);
        host.smaller(Hosts.address(20, 5), 25);
        check.due("four", host.count(5), 4);
        check.due("the first one went", host.sizeTo(Hosts.address(20, 1)), 40);
        for (int id = 2; id <= 5; id++) {
            check.due("path " + id, host.sizeTo(Hosts.address(20, id)), 20 + id);
        }
    }

    private static void answersAnyNumber() {
        check.under("The size that a packet to an address may have: the path's, or the link's.");
        LinkHost host = new LinkHost(7);
        int[] any = {0, -1, 255, Hosts.GROUP, Integer.MIN_VALUE, Integer.MAX_VALUE};
        for (int address : any) {
            check.due("sizeTo(" + address + ")", host.sizeTo(address), 40);
        }
        check.due("while down", Hosts.down(7).sizeTo(FAR), 40);
    }

    private static void refusesWrongArguments() {
        check.under("IllegalArgumentException: to is no address, or size not 0 .. 40.");
        int[][] wrong = {
            {0, 10}, {255, 10}, {256, 10}, {511, 10}, {Hosts.GROUP, 10}, {-1, 10},
            {Hosts.address(251, 1), 10}, {FAR, -1}, {FAR, 41},
        };
        LinkHost host = Hosts.ready(7);
        LinkHost down = Hosts.down(7);
        for (int[] w : wrong) {
            String call = "smaller(" + w[0] + ", " + w[1] + ")";
            check.badArgument(call, () -> host.smaller(w[0], w[1]));
            check.badArgument(call + " while down", () -> down.smaller(w[0], w[1]));
        }
        host.smaller(Hosts.local(1), 8);
        host.smaller(Hosts.address(250, 254), 39);
        check.due("the edges are right", host.count(5), 2);
    }

    private static void refusesWhileDown() {
        check.under("IllegalStateException: the host is down.");
        LinkHost down = Hosts.down(7);
        check.badState("smaller", () -> down.smaller(FAR, 10));
        check.due("no path", down.count(5), 0);
    }
}
