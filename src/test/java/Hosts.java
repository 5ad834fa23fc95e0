/** Hosts in the states from which many tests start, and the words that they share. */
final class Hosts {
    static final int NONE = 0;
    static final int GROUP = 65535;

    static final int TENTATIVE = 1;
    static final int PREFERRED = 2;
    static final int DEPRECATED = 3;
    static final int DUPLICATE = 4;

    static final int SOUGHT = 1;
    static final int REACHABLE = 2;
    static final int STALE = 3;
    static final int DELAY = 4;
    static final int PROBED = 5;

    static final int ROUTER = 1024;
    static final int WAITS = 2048;

    private Hosts() {
    }

    static int address(int prefix, int id) {
        return 256 * prefix + id;
    }

    static int local(int id) {
        return address(1, id);
    }

    static int owned(int state, int address) {
        return 65536 * state + address;
    }

    static int known(int state, int number) {
        return state + 8 * number;
    }

    /** At time 2, with its local address preferred. */
    static LinkHost ready(int id) {
        LinkHost host = new LinkHost(id);
        host.tick(2);
        return host;
    }

    /** At time 4, with a local address and one of the on-link prefix 5, both of them preferred. */
    static LinkHost withPrefix(int id) {
        LinkHost host = ready(id);
        host.prefix(5, 3, 1000, 1000);
        host.tick(2);
        return host;
    }

    static LinkHost down(int id) {
        LinkHost host = new LinkHost(id);
        host.asked(0, local(id), 1);
        return host;
    }

    /** Any number of ticks, in as few calls as can be. */
    static void pass(LinkHost host, int ticks) {
        for (int left = ticks; left > 0; left -= 100) {
            host.tick(Math.min(left, 100));
        }
    }

    /** A packet comes with these headers, each told by its kind and its number. */
    static int come(LinkHost host, int from, int to, int... kindsAndNumbers) {
        for (int i = 0; i < kindsAndNumbers.length; i += 2) {
            host.header(kindsAndNumbers[i], kindsAndNumbers[i + 1]);
        }
        return host.come(from, to);
    }

    /** All that can be seen of a host, but for the headers; of neighbours and paths, the given. */
    static String seen(LinkHost host, int... addresses) {
        StringBuilder text = new StringBuilder("counts");
        for (int which = 0; which <= 11; which++) {
            text.append(' ').append(host.count(which));
        }
        text.append(", own");
        int owns = host.count(1);
        for (int i = 0; i < owns; i++) {
            text.append(' ').append(host.own(i)).append(" until ").append(host.until(i));
        }
        text.append(", out");
        int held = Math.min(host.count(6), 12);
        for (int i = 0; i < held; i++) {
            text.append(' ').append(host.outKind(i)).append('/').append(host.outTo(i));
            text.append('/').append(host.outX(i));
        }
        for (int address : addresses) {
            text.append(", ").append(address).append(" neighbour ").append(host.neighbour(address));
            text.append(" size ").append(host.sizeTo(address));
        }
        return text.toString();
    }
}
