/** The bucket: full, empty, and when one comes; what is sent to NONE. */
public final class BucketEdgeTest {
    private static final Check check = new Check("BucketEdgeTest");
    private static final int OWN = Hosts.local(7);
    private static final int FROM = Hosts.address(20, 9);

    public static void main(String[] args) {
        hasThreeAtFirst();
        sendsNothingWhenItIsEmpty();
        fillsInTicksThatCanBeDividedByFour();
        isNeverFullerThanThree();
        spendsNothingForPacketsToTheGroup();
        spendsNothingForNone();
        spendsNothingElse();
        check.end();
    }

    private static void fault(LinkHost host, int times) {
        for (int i = 0; i < times; i++) {
            Hosts.come(host, FROM, OWN, 7, 0);
        }
    }

    private static void hasThreeAtFirst() {
        check.under("it has 3 at first, a fault takes one");
        check.due("at first", new LinkHost(7).count(9), 3);
        for (int faults = 0; faults <= 3; faults++) {
            LinkHost host = Hosts.ready(7);
            fault(host, faults);
            check.due("after " + faults, host.count(9), 3 - faults);
            check.due("sent after " + faults, host.count(6), 2 + faults);
        }
    }

    private static void sendsNothingWhenItIsEmpty() {
        check.under("and if the BUCKET is not empty");
        LinkHost host = Hosts.ready(7);
        fault(host, 3);
        check.due("a fourth is looked at", Hosts.come(host, FROM, OWN, 1, 0, 8, 0, 6, 0), 2);
        check.due("a fifth is looked at", Hosts.come(host, FROM, OWN, 1, 2, 6, 0), 1);
        check.due("a sixth is looked at", Hosts.come(host, FROM, OWN, 2, 1, 6, 0), 1);
        check.due("to GROUP, too", Hosts.come(host, FROM, Hosts.GROUP, 1, 2, 6, 0), 1);
        check.due("none is sent", host.count(6), 5);
        check.due("still empty", host.count(9), 0);
        check.due("each ended", host.count(8), 0);
        host.tick(2);
        check.due("one came", host.count(9), 1);
        check.due("what was not sent is not sent later", host.count(6), 5);
        fault(host, 1);
        check.due("sent", host.count(6), 6);
        check.due("empty", host.count(9), 0);
        fault(host, 1);
        check.due("not sent", host.count(6), 6);
    }

    private static void fillsInTicksThatCanBeDividedByFour() {
        check.under("in each tick whose time can be divided by 4 one comes, up to 3");
        LinkHost host = Hosts.ready(7);
        fault(host, 3);
        for (int time = 3; time <= 20; time++) {
            host.tick(1);
            check.due("time " + time, host.count(9), Math.min(time / 4, 3));
        }
        for (int start = 2; start <= 9; start++) {
            LinkHost other = new LinkHost(7);
            other.tick(start);
            fault(other, 3);
            check.due("empty", other.count(9), 0);
            for (int ticks = 1; ticks <= 9; ticks++) {
                other.tick(1);
                check.due("empty at " + start + ", " + ticks + " ticks", other.count(9),
                        Math.min((start + ticks) / 4 - start / 4, 3));
            }
        }
        LinkHost lasting = Hosts.ready(7);
        fault(lasting, 3);
        lasting.tick(100);
        check.due("a hundred ticks", lasting.count(9), 3);
    }

    private static void isNeverFullerThanThree() {
        check.under("up to 3");
        for (int faults = 0; faults <= 3; faults++) {
            for (int fours = 0; fours <= 5; fours++) {
                LinkHost host = new LinkHost(7);
                host.tick(3);
                fault(host, faults);
                Hosts.pass(host, 4 * fours);
                check.due(faults + " faults, " + fours + " came", host.count(9),
                        Math.min(3 - faults + fours, 3));
            }
        }
        LinkHost full = Hosts.ready(7);
        full.tick(2);
        fault(full, 4);
        check.due("a full one lets three through", full.count(6), 5);
    }

    private static void spendsNothingForPacketsToTheGroup() {
        check.under("if the packet is not to GROUP, or f is 2");
        int[][] silent = {{7, 0}, {8, 1}, {9, 3}, {2, 1}, {2, 3}, {1, 3}, {0, 3}, {1, 1}};
        LinkHost host = Hosts.ready(7);
        for (int[] header : silent) {
            String what = "header " + header[0] + " " + header[1];
            check.due(what + " ends it", Hosts.come(host, FROM, Hosts.GROUP, header[0], header[1],
                    6, 0), 1);
            check.due(what + ": sent", host.count(6), 2);
            check.due(what + ": bucket", host.count(9), 3);
            check.due(what + ": taken", host.count(8), 0);
        }
        check.due("0 elsewhere", Hosts.come(host, FROM, Hosts.GROUP, 1, 0, 0, 2, 6, 0), 2);
        check.due("0 elsewhere: sent", host.count(6), 2);
        Hosts.come(host, FROM, Hosts.GROUP, 1, 0, 1, 2);
        check.out("f is 2", host, 0, 6, FROM, 16 + 2);
        check.due("f is 2: bucket", host.count(9), 2);
        Hosts.come(host, FROM, Hosts.GROUP, 0, 2);
        check.out("f is 2 by HOPS", host, 0, 6, FROM, 2);
        Hosts.come(host, FROM, OWN, 1, 3);
        check.out("3 to an own address", host, 0, 6, FROM, 2);
        check.due("empty", host.count(9), 0);
    }

    private static void spendsNothingForNone() {
        check.under("(Where anything would be sent to NONE, nothing is sent, and nothing taken "
                + "from the bucket.)");
        int[][] headers = {{7, 0}, {9, 3}, {2, 1}, {1, 2}, {1, 3}, {0, 2}, {0, 3}, {5, 0}, {5, 3}};
        for (int to : new int[] {OWN, Hosts.GROUP}) {
            LinkHost host = Hosts.ready(7);
            for (int[] header : headers) {
                String what = "header " + header[0] + " " + header[1] + " to " + to;
                check.due(what + ": looked at",
                        Hosts.come(host, Hosts.NONE, to, header[0], header[1], 6, 0), 1);
                check.due(what + ": sent", host.count(6), 2);
                check.due(what + ": bucket", host.count(9), 3);
            }
            check.due("nothing behind them is taken", host.count(8), 0);
            fault(host, 3);
            check.due("all three are there", host.count(6), 5);
            Hosts.come(host, Hosts.NONE, to, 1, 2);
            check.due("none from an empty one", host.count(9), 0);
            Hosts.come(host, Hosts.NONE, to, 6, 0);
            check.due("data of NONE is taken", host.count(8), 1);
        }
    }

    private static void spendsNothingElse() {
        check.under("a fault takes one");
        LinkHost host = Hosts.ready(7);
        Hosts.come(host, FROM, OWN, 5, 2);
        Hosts.come(host, FROM, OWN, 4, 0);
        Hosts.come(host, FROM, OWN, 3, 1);
        Hosts.come(host, FROM, OWN, 1, 1);
        Hosts.come(host, FROM, OWN, 6, 0);
        Hosts.come(host, FROM, OWN);
        Hosts.come(host, FROM, Hosts.local(8), 7, 0);
        host.send(Hosts.local(9), 5);
        host.asked(Hosts.local(9), OWN, 3);
        check.due("bucket", host.count(9), 3);
        fault(host, 3);
        int sent = host.count(6);
        Hosts.come(host, FROM, OWN, 5, 2);
        check.out("an echo needs no bucket", host, 0, 5, FROM, 2);
        check.due("sent", host.count(6), sent + 1);
        check.due("bucket", host.count(9), 0);
    }
}
