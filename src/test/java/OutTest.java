/** Promises 16, 17 and 18: outKind, outTo and outX. */
public final class OutTest {
    private static final Check check = new Check("OutTest");

    public static void main(String[] args) {
        holdsEachKind();
        holdsTheLatestTwelve();
        refusesOtherIndices();
        check.end();
    }

    private static void holdsEachKind() {
        check.under("OUT is the row of what the host sent, each with a KIND, a number TO and a "
                + "number X");
        LinkHost host = Hosts.ready(7);
        int friend = Hosts.local(9);
        host.send(friend, 5);
        host.asked(friend, Hosts.local(7), 3);
        host.header(5, 3);
        host.come(friend, Hosts.local(7));
        host.header(1, 0);
        host.header(9, 0);
        host.come(friend, Hosts.local(7));
        check.out("fault", host, 0, 6, friend, 17);
        check.out("echo", host, 1, 5, friend, 3);
        check.out("told", host, 2, 3, friend, Hosts.local(7));
        check.out("packet", host, 3, 4, friend, 5);
        check.out("ask", host, 4, 2, Hosts.GROUP, friend);
        check.out("probe", host, 5, 1, Hosts.GROUP, Hosts.local(7));
        check.out("first probe", host, 6, 1, Hosts.GROUP, Hosts.local(7));
        check.badIndex("nothing before that", () -> host.outKind(7));
    }

    private static void holdsTheLatestTwelve() {
        check.under("The kind of what was sent i before the latest (0: the latest).");
        for (int sent = 3; sent <= 40; sent++) {
            LinkHost host = Hosts.ready(7);
            for (int k = 3; k <= sent; k++) {
                host.header(5, k % 4);
                host.come(Hosts.local(k), Hosts.local(7));
            }
            int held = Math.min(sent, 12);
            for (int i = 0; i < held && sent - i >= 3; i++) {
                check.out(i + " before " + sent, host, i, 5, Hosts.local(sent - i), (sent - i) % 4);
            }
            refuses(host, held);
            check.due("sent in all", host.count(6), sent);
        }
    }

    private static void refuses(LinkHost host, int i) {
        check.badIndex("outKind(" + i + ")", () -> host.outKind(i));
        check.badIndex("outTo(" + i + ")", () -> host.outTo(i));
        check.badIndex("outX(" + i + ")", () -> host.outX(i));
    }

    private static void refusesOtherIndices() {
        check.under("IndexOutOfBoundsException: OUT does not hold it.");
        LinkHost host = new LinkHost(7);
        int[] wrong = {-1, 1, 12, Integer.MIN_VALUE, Integer.MAX_VALUE};
        for (int i : wrong) {
            refuses(host, i);
        }
        check.out("while down", Hosts.down(7), 0, 1, Hosts.GROUP, Hosts.local(7));
    }
}
