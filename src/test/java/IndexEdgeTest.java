/** The rows that can be read by an index: their first and last one, and one step beyond. */
public final class IndexEdgeTest {
    private static final Check check = new Check("IndexEdgeTest");

    public static void main(String[] args) {
        ownAddresses();
        ownAddressesGone();
        out();
        check.end();
    }

    private static void ownAddresses() {
        for (int length = 1; length <= 5; length++) {
            LinkHost host = Hosts.ready(7);
            for (int prefix = 2; prefix <= length; prefix++) {
                host.prefix(prefix, 2, 100 + prefix, 0);
            }
            check.under("Own address i (from 0), and 65536 times its state.");
            check.due("first", host.own(0), Hosts.owned(Hosts.PREFERRED, Hosts.local(7)));
            if (length > 1) {
                check.due("last of " + length, host.own(length - 1),
                        Hosts.owned(Hosts.TENTATIVE, Hosts.address(length, 7)));
            }
            check.under("When the valid life of own address i ends, -1 for never.");
            check.due("first", host.until(0), -1);
            if (length > 1) {
                check.due("last of " + length, host.until(length - 1), 102 + length);
            }
            refusesOwn(host, length);
        }
        refusesOwn(Hosts.down(7), 1);
    }

    private static void ownAddressesGone() {
        LinkHost host = Hosts.ready(7);
        host.prefix(5, 2, 3, 3);
        host.prefix(6, 2, 4, 4);
        refusesOwn(host, 3);
        host.tick(3);
        refusesOwn(host, 2);
        check.due("the other one moved up", host.own(1) % 65536, Hosts.address(6, 7));
        host.tick(1);
        refusesOwn(host, 1);
    }

    private static void refusesOwn(LinkHost host, int length) {
        check.under("IndexOutOfBoundsException: there is none.");
        for (int i : beyond(length)) {
            check.badIndex("own(" + i + ") of " + length, () -> host.own(i));
            check.badIndex("until(" + i + ") of " + length, () -> host.until(i));
        }
    }

    private static void out() {
        for (int sent = 1; sent <= 26; sent++) {
            LinkHost host = new LinkHost(7);
            for (int i = 1; i < sent; i++) {
                Hosts.come(host, Hosts.local(i), Hosts.GROUP, 5, i % 4);
            }
            int held = Math.min(sent, 12);
            check.under("it holds the latest 12.");
            check.due("sent", host.count(6), sent);
            if (sent > 1) {
                check.out("latest of " + sent, host, 0, 5, Hosts.local(sent - 1), (sent - 1) % 4);
            }
            int first = sent - held;
            if (first == 0) {
                check.out("first of " + sent, host, held - 1, 1, Hosts.GROUP, Hosts.local(7));
            } else {
                check.out("first held of " + sent, host, held - 1, 5, Hosts.local(first),
                        first % 4);
            }
            refusesOut(host, held);
        }
        refusesOut(Hosts.down(7), 1);
    }

    private static void refusesOut(LinkHost host, int held) {
        check.under("IndexOutOfBoundsException: OUT does not hold it.");
        for (int i : beyond(held)) {
            check.badIndex("outKind(" + i + ") of " + held, () -> host.outKind(i));
            check.badIndex("outTo(" + i + ") of " + held, () -> host.outTo(i));
            check.badIndex("outX(" + i + ") of " + held, () -> host.outX(i));
        }
    }

    private static int[] beyond(int length) {
        return new int[] {
            -1, length, -2, length + 1, -length, length + 12, Integer.MIN_VALUE,
            Integer.MIN_VALUE + 1, Integer.MAX_VALUE - 1, Integer.MAX_VALUE,
        };
    }
}
