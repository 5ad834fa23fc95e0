/** Promise 2: tick, and what is due in a tick. */
public final class TickTest {
    private static final Check check = new Check("TickTest");

    public static void main(String[] args) {
        countsTime();
        refusesOtherNumbers();
        probesTwiceAndPrefers();
        seeksThreeTimes();
        losesOnlyWhatWaits();
        reachableGrowsStale();
        delayIsProbedAndTakenAway();
        rowsGoInTheirOrder();
        fillsTheBucket();
        downHostOnlyCountsTime();
        check.end();
    }

    private static void countsTime() {
        check.under("n ticks.");
        LinkHost host = new LinkHost(7);
        host.tick(1);
        check.due("one tick", host.count(0), 1);
        host.tick(100);
        check.due("a hundred more", host.count(0), 101);
    }

    private static void refusesOtherNumbers() {
        check.under("IllegalArgumentException: n is not 1 .. 100.");
        LinkHost host = new LinkHost(7);
        int[] wrong = {0, -1, 101, Integer.MIN_VALUE, Integer.MAX_VALUE};
        for (int n : wrong) {
            check.badArgument("tick(" + n + ")", () -> host.tick(n));
        }
        check.due("time after wrong ticks", host.count(0), 0);
        LinkHost down = Hosts.down(7);
        check.badArgument("tick(0) while down", () -> down.tick(0));
    }

    private static void probesTwiceAndPrefers() {
        check.under("When one is FORMED it is tentative, and a PROBE is sent: kind 1, to GROUP, X "
                + "the address.");
        LinkHost host = new LinkHost(7);
        host.tick(1);
        check.due("sent after one tick", host.count(6), 2);
        check.out("second probe", host, 0, 1, Hosts.GROUP, Hosts.local(7));
        check.due("still tentative", host.own(0), Hosts.owned(Hosts.TENTATIVE, Hosts.local(7)));
        host.tick(1);
        check.due("no third probe", host.count(6), 2);
        check.due("preferred", host.own(0), Hosts.owned(Hosts.PREFERRED, Hosts.local(7)));
        host.tick(100);
        check.due("preferred for ever", host.own(0), Hosts.owned(Hosts.PREFERRED, Hosts.local(7)));
        check.due("nothing more is sent", host.count(6), 2);
    }

    private static void seeksThreeTimes() {
        check.under("To ASK for it: kind 2, to GROUP if it is sought, else to its address, X its "
                + "address.");
        LinkHost host = Hosts.ready(7);
        int wanted = Hosts.local(9);
        host.send(wanted, 5);
        for (int asked = 1; asked <= 3; asked++) {
            check.due("sent", host.count(6), 2 + asked);
            check.out("ask " + asked, host, 0, 2, Hosts.GROUP, wanted);
            check.due("sought", host.neighbour(wanted), Hosts.SOUGHT + Hosts.WAITS);
            check.due("not lost yet", host.count(7), 0);
            host.tick(1);
        }
        check.due("asked no more", host.count(6), 5);
        check.due("taken away", host.neighbour(wanted), 0);
        check.due("no neighbours", host.count(4), 0);
        check.due("lost", host.count(7), 1);
    }

    private static void losesOnlyWhatWaits() {
        check.under("one more tick later it is taken away, and counts as LOST if a packet waits.");
        LinkHost host = Hosts.ready(7);
        host.router(9, 3, 1000, 0);
        host.send(Hosts.local(9), 5);
        host.tick(8);
        check.due("probed in vain", host.neighbour(Hosts.local(9)), 0);
        check.due("nothing lost", host.count(7), 0);
        check.due("it stays a router", host.count(2), 1);
        host.send(Hosts.local(10), 5);
        host.send(Hosts.local(11), 5);
        host.tick(3);
        check.due("two lost", host.count(7), 2);
    }

    private static void reachableGrowsStale() {
        check.under("A reachable one is stale 10 ticks after it became so (the last time).");
        LinkHost host = Hosts.ready(7);
        int friend = Hosts.local(9);
        host.send(friend, 5);
        host.told(friend, 3, 2);
        host.tick(9);
        check.due("nine ticks", host.neighbour(friend), Hosts.known(Hosts.REACHABLE, 3));
        host.told(friend, 3, 2);
        host.tick(9);
        check.due("counted anew", host.neighbour(friend), Hosts.known(Hosts.REACHABLE, 3));
        host.tick(1);
        check.due("ten ticks", host.neighbour(friend), Hosts.known(Hosts.STALE, 3));
        int sent = host.count(6);
        host.tick(100);
        check.due("stale for ever", host.neighbour(friend), Hosts.known(Hosts.STALE, 3));
        check.due("nothing sent", host.count(6), sent);
    }

    private static void delayIsProbedAndTakenAway() {
        check.under("One in delay is probed 5 ticks after it became so: it is asked for then, and "
                + "one and two ticks later; one more tick later it is taken away.");
        LinkHost host = Hosts.ready(7);
        int friend = Hosts.local(9);
        host.asked(friend, Hosts.local(7), 3);
        host.send(friend, 5);
        check.due("in delay", host.neighbour(friend), Hosts.known(Hosts.DELAY, 3));
        host.tick(2);
        host.send(friend, 5);
        host.tick(2);
        int sent = host.count(6);
        check.due("four ticks", host.neighbour(friend), Hosts.known(Hosts.DELAY, 3));
        for (int asked = 1; asked <= 3; asked++) {
            host.tick(1);
            check.due("probed", host.neighbour(friend), Hosts.known(Hosts.PROBED, 3));
            check.due("sent", host.count(6), sent + asked);
            check.out("ask " + asked, host, 0, 2, friend, friend);
        }
        host.tick(1);
        check.due("taken away", host.neighbour(friend), 0);
        check.due("asked no more", host.count(6), sent + 3);
        check.due("not lost", host.count(7), 0);
    }

    private static void rowsGoInTheirOrder() {
        check.under("Two things that are due in one tick go by rows: own addresses, neighbours, "
                + "routers, prefixes, paths; in a row from the first one on.");
        LinkHost host = Hosts.ready(7);
        int first = Hosts.local(9);
        int second = Hosts.local(10);
        host.send(first, 5);
        host.send(second, 5);
        host.prefix(6, 2, 100, 100);
        host.prefix(5, 2, 100, 100);
        host.tick(1);
        check.out("own addresses go first", host, 3, 1, Hosts.GROUP, Hosts.address(6, 7));
        check.out("the second one of them", host, 2, 1, Hosts.GROUP, Hosts.address(5, 7));
        check.out("then neighbours", host, 1, 2, Hosts.GROUP, first);
        check.out("the second one of them", host, 0, 2, Hosts.GROUP, second);
    }

    private static void fillsTheBucket() {
        check.under("in each tick whose time can be divided by 4 one comes, up to 3.");
        LinkHost host = Hosts.ready(7);
        for (int i = 0; i < 3; i++) {
            host.header(7, 0);
            host.come(Hosts.local(9), Hosts.local(7));
        }
        check.due("empty", host.count(9), 0);
        host.tick(1);
        check.due("time 3", host.count(9), 0);
        int[] wanted = {1, 1, 1, 1, 2, 2, 2, 2, 3, 3, 3, 3, 3};
        for (int i = 0; i < wanted.length; i++) {
            host.tick(1);
            check.due("time " + (4 + i), host.count(9), wanted[i]);
        }
    }

    private static void downHostOnlyCountsTime() {
        check.under("it does nothing any more, but time goes on.");
        LinkHost host = new LinkHost(7);
        host.router(9, 3, 5, 20);
        host.prefix(5, 3, 5, 4);
        host.header(1, 2);
        host.come(Hosts.local(9), Hosts.GROUP);
        host.told(Hosts.local(7), 3, 0);
        int sent = host.count(6);
        host.tick(100);
        check.due("time", host.count(0), 100);
        check.due("sent", host.count(6), sent);
        check.due("own addresses", host.count(1), 2);
        check.due("tentative still", host.own(1),
                Hosts.owned(Hosts.TENTATIVE, Hosts.address(5, 7)));
        check.due("routers", host.count(2), 1);
        check.due("prefixes", host.count(3), 1);
        check.due("bucket", host.count(9), 2);
        check.due("down", host.count(11), 1);
    }
}
