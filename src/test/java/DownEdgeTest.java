/** A host that is down: how it comes to that, what it refuses, and that it does nothing more. */
public final class DownEdgeTest {
    private static final Check check = new Check("DownEdgeTest");
    private static final int OWN = Hosts.local(7);
    private static final int FRIEND = Hosts.local(9);
    private static final int FORMED = Hosts.address(5, 7);

    public static void main(String[] args) {
        onlyWhileTheLocalAddressIsTentative();
        onlyByTheLocalAddress();
        refusesEachCall();
        doesNothingAnyMore();
        answersStill();
        check.end();
    }

    private static void onlyWhileTheLocalAddressIsTentative() {
        check.under("If the local address is duplicate, the host is DOWN");
        for (int time = 0; time <= 4; time++) {
            LinkHost asked = new LinkHost(7);
            LinkHost told = new LinkHost(7);
            if (time > 0) {
                asked.tick(time);
                told.tick(time);
            }
            int sent = asked.count(6);
            asked.asked(Hosts.NONE, OWN, 3);
            told.told(OWN, 3, 0);
            check.due("asked at " + time, asked.count(11), time < 2 ? 1 : 0);
            check.due("told at " + time, told.count(11), time < 2 ? 1 : 0);
            int state = time < 2 ? Hosts.DUPLICATE : Hosts.PREFERRED;
            check.due("asked at " + time, asked.own(0), Hosts.owned(state, OWN));
            check.due("told at " + time, told.own(0), Hosts.owned(state, OWN));
            check.due("asked at " + time + ": sent", asked.count(6), time < 2 ? sent : sent + 1);
            check.due("told at " + time + ": sent", told.count(6), sent);
        }
    }

    private static void onlyByTheLocalAddress() {
        LinkHost host = new LinkHost(7);
        host.asked(FRIEND, OWN, 3);
        host.asked(Hosts.NONE, FRIEND, 3);
        host.told(FRIEND, 3, 7);
        host.prefix(5, 2, 100, 50);
        host.asked(Hosts.NONE, FORMED, 3);
        host.prefix(6, 2, 100, 50);
        host.told(Hosts.address(6, 7), 3, 0);
        check.due("not down", host.count(11), 0);
        host.tick(2);
        check.due("preferred", host.own(0), Hosts.owned(Hosts.PREFERRED, OWN));
        check.due("duplicate", host.own(1), Hosts.owned(Hosts.DUPLICATE, FORMED));
        check.due("duplicate", host.own(2), Hosts.owned(Hosts.DUPLICATE, Hosts.address(6, 7)));
        check.due("not down", host.count(11), 0);
    }

    /** Down at time 1, with one of each row, and two in the bucket. */
    private static LinkHost busyAndDown() {
        LinkHost host = new LinkHost(7);
        host.router(9, 3, 5, 20);
        host.prefix(5, 3, 5, 4);
        host.smaller(FRIEND, 15);
        Hosts.come(host, FRIEND, Hosts.GROUP, 1, 2);
        host.tick(1);
        host.told(OWN, 3, 0);
        return host;
    }

    private static String seen(LinkHost host) {
        return Hosts.seen(host, OWN, FRIEND, FORMED);
    }

    private static void refusesEachCall() {
        check.under("IllegalStateException: the host is down.");
        LinkHost host = busyAndDown();
        String before = seen(host);
        check.badState("router", () -> host.router(9, 3, 0, 30));
        check.badState("router", () -> host.router(10, 3, 100, 0));
        check.badState("prefix", () -> host.prefix(5, 3, 0, 0));
        check.badState("prefix", () -> host.prefix(6, 3, 100, 100));
        check.badState("prefix", () -> host.prefix(6, 0, 0, 0));
        check.badState("prefix of LOCAL", () -> host.prefix(1, 3, 100, 100));
        check.badState("asked", () -> host.asked(Hosts.NONE, FORMED, 3));
        check.badState("asked", () -> host.asked(FRIEND, OWN, 4));
        check.badState("asked for another one", () -> host.asked(FRIEND, FRIEND, 4));
        check.badState("told", () -> host.told(FORMED, 3, 0));
        check.badState("told", () -> host.told(FRIEND, 4, 7));
        check.badState("told of a stranger", () -> host.told(Hosts.local(99), 4, 7));
        check.badState("send", () -> host.send(FRIEND, 5));
        check.badState("send", () -> host.send(FRIEND, 40));
        check.badState("send", () -> host.send(Hosts.address(20, 9), 5));
        check.badState("smaller", () -> host.smaller(FRIEND, 10));
        check.badState("smaller", () -> host.smaller(FRIEND, 0));
        check.badState("come", () -> host.come(FRIEND, OWN));
        check.badState("come", () -> host.come(FRIEND, Hosts.GROUP));
        check.badState("come to another one", () -> host.come(FRIEND, FRIEND));
        check.same("all is as it was", seen(host), before);
    }

    private static void doesNothingAnyMore() {
        check.under("it does nothing any more, but time goes on.");
        LinkHost host = busyAndDown();
        String before = seen(host);
        int[] ticks = {1, 2, 1, 1, 100};
        int time = 1;
        for (int n : ticks) {
            host.tick(n);
            time += n;
            check.due("time", host.count(0), time);
            check.same("all but the time", seen(host),
                    before.replaceFirst("counts 1 ", "counts " + time + " "));
        }
        check.badArgument("no tick", () -> host.tick(0));
        check.badArgument("too many ticks", () -> host.tick(101));
        check.due("time", host.count(0), time);
    }

    private static void answersStill() {
        check.under("11 whether it is down (1, else 0)");
        LinkHost host = busyAndDown();
        int[] counts = {1, 2, 1, 1, 1, 1, 5, 0, 0, 2, 20, 1};
        for (int which = 0; which < counts.length; which++) {
            check.due("count(" + which + ")", host.count(which), counts[which]);
        }
        check.due("own(0)", host.own(0), Hosts.owned(Hosts.DUPLICATE, OWN));
        check.due("own(1)", host.own(1), Hosts.owned(Hosts.TENTATIVE, FORMED));
        check.due("until(0)", host.until(0), -1);
        check.due("until(1)", host.until(1), 5);
        check.due("neighbour", host.neighbour(FRIEND),
                Hosts.known(Hosts.STALE, 3) + Hosts.ROUTER);
        check.due("sizeTo", host.sizeTo(FRIEND), 15);
        check.out("the latest", host, 0, 1, Hosts.GROUP, FORMED);
        check.due("up", Hosts.ready(7).count(11), 0);
    }
}
