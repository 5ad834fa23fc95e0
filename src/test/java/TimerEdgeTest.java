/** What is due some ticks later: one tick before it, at it, and one tick after it. */
public final class TimerEdgeTest {
    private static final Check check = new Check("TimerEdgeTest");
    private static final int OWN = Hosts.local(7);
    private static final int FRIEND = Hosts.local(9);
    private static final int ASKED = 2;
    private static final int OVERRIDE = 4;

    public static void main(String[] args) {
        timeGoesOnByTicks();
        probesTwice();
        asksThreeTimesForOneThatIsSought();
        theLastMomentForOneThatIsSought();
        losesThePacketThatWaits();
        reachableForTenTicks();
        reachableTheLastTime();
        delayForFiveTicks();
        asksThreeTimesForOneThatIsProbed();
        theLastMomentForOneThatIsProbed();
        rowsGoInTheirOrder();
        manyTicksAreSingleOnes();
        lastsForAllItsCalls();
        check.end();
    }

    private static void timeGoesOnByTicks() {
        check.under("TIME is counted in ticks, at first 0");
        check.due("at first", new LinkHost(7).count(0), 0);
        for (int n : new int[] {1, 2, 99, 100}) {
            LinkHost host = new LinkHost(7);
            host.tick(n);
            check.due("after " + n, host.count(0), n);
            host.tick(1);
            check.due("after one more", host.count(0), n + 1);
        }
    }

    private static void probesTwice() {
        check.under("One tick later another probe is sent, and one more tick later it is "
                + "preferred");
        LinkHost local = new LinkHost(7);
        probesTwice(local, 0, 0);
        for (int start : new int[] {2, 3, 100}) {
            LinkHost host = new LinkHost(7);
            host.tick(start);
            host.prefix(5, 2, 100, 50);
            probesTwice(host, 1, 2);
        }
    }

    private static void probesTwice(LinkHost host, int i, int sentBefore) {
        int[] states = {Hosts.TENTATIVE, Hosts.TENTATIVE, Hosts.PREFERRED, Hosts.PREFERRED};
        int[] probes = {1, 2, 2, 2};
        int address = host.own(i) % 65536;
        for (int ticks = 0; ticks <= 3; ticks++) {
            check.due("state after " + ticks, host.own(i), Hosts.owned(states[ticks], address));
            check.due("probes after " + ticks, host.count(6), sentBefore + probes[ticks]);
            check.out("probe", host, 0, 1, Hosts.GROUP, address);
            host.tick(1);
        }
    }

    private static LinkHost seeking() {
        LinkHost host = Hosts.ready(7);
        host.send(FRIEND, 5);
        return host;
    }

    private static void asksThreeTimesForOneThatIsSought() {
        check.under("When it is made as sought, and one and two ticks later, it is asked for; one "
                + "more tick later it is taken away");
        LinkHost host = seeking();
        for (int ticks = 0; ticks <= 2; ticks++) {
            check.due("asked for after " + ticks, host.count(6), 3 + ticks);
            check.out("after " + ticks, host, 0, 2, Hosts.GROUP, FRIEND);
            check.due("sought after " + ticks, host.neighbour(FRIEND), Hosts.SOUGHT + Hosts.WAITS);
            host.send(FRIEND, 6);
            host.tick(1);
        }
        check.due("taken away", host.neighbour(FRIEND), 0);
        check.due("asked for no more", host.count(6), 5);
        host.tick(1);
        check.due("asked for no more", host.count(6), 5);
    }

    private static void theLastMomentForOneThatIsSought() {
        LinkHost early = seeking();
        early.tick(2);
        early.told(FRIEND, 3, ASKED);
        check.due("found two ticks later", early.neighbour(FRIEND),
                Hosts.known(Hosts.REACHABLE, 3));
        early.tick(1);
        check.due("it stays", early.neighbour(FRIEND), Hosts.known(Hosts.REACHABLE, 3));
        check.due("nothing is lost", early.count(7), 0);
        LinkHost late = seeking();
        late.tick(3);
        late.told(FRIEND, 3, ASKED);
        check.due("three ticks later it is too late", late.neighbour(FRIEND), 0);
        check.due("lost", late.count(7), 1);
    }

    private static void losesThePacketThatWaits() {
        check.under("and counts as LOST if a packet waits.");
        LinkHost host = seeking();
        host.send(FRIEND, 6);
        host.send(FRIEND, 7);
        host.tick(2);
        check.due("not yet", host.count(7), 0);
        host.tick(1);
        check.due("one, however many were to be sent", host.count(7), 1);
        host.tick(3);
        check.due("once", host.count(7), 1);
        check.under("One that is sought may have a packet that WAITS for it (a later one takes its "
                + "place).");
        LinkHost later = seeking();
        later.send(FRIEND, 6);
        later.send(FRIEND, 7);
        later.told(FRIEND, 3, ASKED);
        check.due("one is sent", later.count(6), 4);
        check.out("the latest", later, 0, 4, FRIEND, 7);
        check.due("none waits", later.neighbour(FRIEND), Hosts.known(Hosts.REACHABLE, 3));
    }

    private static LinkHost reachable() {
        LinkHost host = seeking();
        host.told(FRIEND, 3, ASKED);
        return host;
    }

    private static void reachableForTenTicks() {
        check.under("A reachable one is stale 10 ticks after it became so");
        int[] states = {Hosts.REACHABLE, Hosts.STALE, Hosts.STALE};
        for (int ticks = 9; ticks <= 11; ticks++) {
            LinkHost host = reachable();
            host.tick(ticks);
            check.due("after " + ticks, host.neighbour(FRIEND), Hosts.known(states[ticks - 9], 3));
            LinkHost used = reachable();
            for (int i = 0; i < ticks; i++) {
                used.send(FRIEND, 5);
                used.tick(1);
            }
            int state = ticks == 11 ? Hosts.DELAY : states[ticks - 9];
            check.due("used, after " + ticks, used.neighbour(FRIEND), Hosts.known(state, 3));
        }
    }

    private static void reachableTheLastTime() {
        check.under("(the last time)");
        for (int again = 1; again <= 12; again++) {
            LinkHost host = reachable();
            host.tick(again);
            host.told(FRIEND, 3, ASKED);
            host.tick(9);
            check.due("told again after " + again + ", 9 ticks", host.neighbour(FRIEND),
                    Hosts.known(Hosts.REACHABLE, 3));
            host.tick(1);
            check.due("told again after " + again + ", 10 ticks", host.neighbour(FRIEND),
                    Hosts.known(Hosts.STALE, 3));
        }
        LinkHost unasked = reachable();
        unasked.tick(9);
        unasked.told(FRIEND, 3, OVERRIDE);
        unasked.asked(FRIEND, OWN, 3);
        unasked.router(9, 3, 0, 0);
        unasked.tick(1);
        check.due("not by words that it did not ask for", unasked.neighbour(FRIEND),
                Hosts.known(Hosts.STALE, 3) + Hosts.ROUTER);
    }

    private static LinkHost inDelay() {
        LinkHost host = Hosts.ready(7);
        host.asked(FRIEND, OWN, 3);
        host.send(FRIEND, 5);
        return host;
    }

    private static void delayForFiveTicks() {
        check.under("One in delay is probed 5 ticks after it became so: it is asked for then");
        for (int again = 0; again <= 4; again++) {
            LinkHost host = inDelay();
            if (again > 0) {
                host.tick(again);
            }
            host.send(FRIEND, 6);
            host.told(FRIEND, 3, 0);
            host.told(FRIEND, 4, 0);
            if (again < 4) {
                host.tick(4 - again);
            }
            check.due("after 4", host.neighbour(FRIEND), Hosts.known(Hosts.DELAY, 3));
            int sent = host.count(6);
            host.tick(1);
            check.due("after 5", host.neighbour(FRIEND), Hosts.known(Hosts.PROBED, 3));
            check.due("asked for", host.count(6), sent + 1);
            check.out("asked for", host, 0, 2, FRIEND, FRIEND);
        }
        LinkHost anew = inDelay();
        anew.tick(4);
        anew.told(FRIEND, 4, OVERRIDE);
        anew.send(FRIEND, 5);
        anew.tick(4);
        check.due("delay anew after 4", anew.neighbour(FRIEND), Hosts.known(Hosts.DELAY, 4));
        anew.tick(1);
        check.due("delay anew after 5", anew.neighbour(FRIEND), Hosts.known(Hosts.PROBED, 4));
        LinkHost waited = seeking();
        waited.tick(2);
        waited.told(FRIEND, 3, 0);
        waited.tick(4);
        check.due("by what waited after 4", waited.neighbour(FRIEND), Hosts.known(Hosts.DELAY, 3));
        waited.tick(1);
        check.due("by what waited after 5", waited.neighbour(FRIEND), Hosts.known(Hosts.PROBED, 3));
    }

    private static void asksThreeTimesForOneThatIsProbed() {
        check.under("it is asked for then, and one and two ticks later; one more tick later it is "
                + "taken away.");
        LinkHost host = inDelay();
        host.tick(4);
        int sent = host.count(6);
        for (int ticks = 0; ticks <= 2; ticks++) {
            host.tick(1);
            check.due("asked for after " + ticks, host.count(6), sent + 1 + ticks);
            check.out("after " + ticks, host, 0, 2, FRIEND, FRIEND);
            check.due("probed after " + ticks, host.neighbour(FRIEND),
                    Hosts.known(Hosts.PROBED, 3));
        }
        host.tick(1);
        check.due("taken away", host.neighbour(FRIEND), 0);
        check.due("asked for no more", host.count(6), sent + 3);
        check.due("nothing waited", host.count(7), 0);
    }

    private static void theLastMomentForOneThatIsProbed() {
        LinkHost early = inDelay();
        early.tick(7);
        early.told(FRIEND, 3, ASKED);
        early.tick(1);
        check.due("found two ticks later", early.neighbour(FRIEND),
                Hosts.known(Hosts.REACHABLE, 3));
        LinkHost late = inDelay();
        late.tick(8);
        late.told(FRIEND, 3, ASKED);
        check.due("three ticks later it is too late", late.neighbour(FRIEND), 0);
        LinkHost used = inDelay();
        used.tick(7);
        check.due("sent", used.send(FRIEND, 5), 0);
        used.told(FRIEND, 3, 0);
        used.asked(FRIEND, OWN, 3);
        used.tick(1);
        check.due("not saved by being used", used.neighbour(FRIEND), 0);
    }

    private static void rowsGoInTheirOrder() {
        check.under("Two things that are due in one tick go by rows: own addresses, neighbours, "
                + "routers, prefixes, paths; in a row from the first one on.");
        LinkHost host = Hosts.ready(7);
        host.asked(Hosts.local(11), OWN, 3);
        host.asked(Hosts.local(10), OWN, 3);
        host.send(Hosts.local(10), 5);
        host.send(Hosts.local(11), 5);
        host.tick(4);
        host.send(Hosts.local(12), 5);
        host.prefix(6, 2, 100, 100);
        host.prefix(5, 2, 100, 100);
        host.tick(1);
        check.out("the first own address", host, 4, 1, Hosts.GROUP, Hosts.address(6, 7));
        check.out("the second own address", host, 3, 1, Hosts.GROUP, Hosts.address(5, 7));
        check.out("the first neighbour", host, 2, 2, Hosts.local(11), Hosts.local(11));
        check.out("the second neighbour", host, 1, 2, Hosts.local(10), Hosts.local(10));
        check.out("the third neighbour", host, 0, 2, Hosts.GROUP, Hosts.local(12));
    }

    private static LinkHost busy() {
        LinkHost host = inDelay();
        host.prefix(5, 3, 30, 10);
        host.prefix(6, 2, 5, 5);
        host.router(10, 4, 20, 30);
        host.smaller(FRIEND, 20);
        host.send(Hosts.local(11), 5);
        Hosts.come(host, FRIEND, OWN, 7, 0);
        Hosts.come(host, FRIEND, OWN, 7, 0);
        return host;
    }

    private static void manyTicksAreSingleOnes() {
        check.under("n ticks.");
        for (int n : new int[] {2, 3, 5, 8, 10, 20, 29, 30, 31, 99, 100}) {
            LinkHost atOnce = busy();
            atOnce.tick(n);
            LinkHost single = busy();
            for (int i = 0; i < n; i++) {
                single.tick(1);
            }
            int[] addresses = {FRIEND, Hosts.local(10), Hosts.local(11)};
            check.same(n + " ticks", Hosts.seen(atOnce, addresses), Hosts.seen(single, addresses));
        }
    }

    private static void lastsForAllItsCalls() {
        check.under("An object is used for at most 512 calls after it has been made");
        LinkHost host = new LinkHost(7);
        host.router(9, 3, 1000, 0);
        for (int i = 0; i < 509; i++) {
            host.tick(100);
        }
        check.due("the 511th", host.count(0), 50900);
        check.due("the 512th", host.count(2), 1);
        LinkHost sender = Hosts.ready(7);
        for (int i = 0; i < 255; i++) {
            Hosts.come(sender, FRIEND, OWN, 5, i % 4);
        }
        check.due("the 512th", sender.count(6), 257);
    }
}
