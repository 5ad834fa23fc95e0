/** An own address in each state, and no address: where one that is usable is asked for. */
public final class UsableEdgeTest {
    private static final Check check = new Check("UsableEdgeTest");
    private static final int OWN = Hosts.local(7);
    private static final int FORMED = Hosts.address(5, 7);
    private static final int FRIEND = Hosts.local(9);
    private static final int NEAR = Hosts.address(5, 9);
    private static final int NO_STATE = 0;

    public static void main(String[] args) {
        isUsableIfPreferredOrDeprecated();
        askedByNone();
        askedByAnother();
        told();
        sendsWithAnAddressOfTheRightKind();
        check.end();
    }

    /** With an address of prefix 5 in that state. */
    private static LinkHost with(int state) {
        LinkHost host = Hosts.ready(7);
        host.prefix(5, 1, 1000, 0);
        if (state == NO_STATE) {
            return host;
        }
        host.prefix(5, 2, 1000, state == Hosts.DEPRECATED ? 0 : 1000);
        if (state == Hosts.DUPLICATE) {
            host.told(FORMED, 3, 0);
        }
        if (state != Hosts.TENTATIVE) {
            host.tick(2);
        }
        check.due("state", host.own(1), Hosts.owned(state, FORMED));
        return host;
    }

    private static boolean isUsable(int state) {
        return state == Hosts.PREFERRED || state == Hosts.DEPRECATED;
    }

    private static void isUsableIfPreferredOrDeprecated() {
        for (int state = NO_STATE; state <= Hosts.DUPLICATE; state++) {
            boolean usable = isUsable(state);
            check.under("to an own usable one or to GROUP (else nothing happens)");
            LinkHost host = with(state);
            int sent = host.count(6);
            check.due("state " + state + ": data", Hosts.come(host, FRIEND, FORMED, 6, 0),
                    usable ? 1 : 0);
            check.due("state " + state + ": taken", host.count(8), usable ? 1 : 0);
            Hosts.come(host, FRIEND, FORMED, 5, 0);
            Hosts.come(host, FRIEND, FORMED, 7, 0);
            check.due("state " + state + ": sent", host.count(6), usable ? sent + 2 : sent);
            check.due("state " + state + ": bucket", host.count(9), usable ? 2 : 3);
            check.due("state " + state + ": GROUP", Hosts.come(host, FRIEND, Hosts.GROUP, 6, 0), 1);
            check.under("4 NO ADDRESS: no own address is usable that is local (if it goes to "
                    + "LOCAL) or not local (else).");
            check.due("state " + state + ": send", host.send(NEAR, 5), usable ? 1 : 4);
            check.due("state " + state + ": send local", host.send(FRIEND, 5), 1);
            check.under("An address is USABLE if it is preferred or deprecated.");
            host.asked(Hosts.NONE, FORMED, 3);
            check.due("state " + state + ": asked for", host.outKind(0) == 3 ? 1 : 0,
                    usable ? 1 : 0);
        }
    }

    private static void askedByNone() {
        check.under("s NONE: if t is an own one: tentative: it is duplicate; usable: TOLD to "
                + "GROUP.");
        for (int state = NO_STATE; state <= Hosts.DUPLICATE; state++) {
            LinkHost host = with(state);
            int sent = host.count(6);
            host.asked(Hosts.NONE, FORMED, 3);
            check.due("state " + state + ": sent", host.count(6),
                    isUsable(state) ? sent + 1 : sent);
            if (isUsable(state)) {
                check.out("state " + state, host, 0, 3, Hosts.GROUP, FORMED);
            }
            if (state != NO_STATE) {
                check.due("state then", host.own(1), Hosts.owned(
                        state == Hosts.TENTATIVE ? Hosts.DUPLICATE : state, FORMED));
            }
            check.due("no neighbour is made", host.count(4), 0);
        }
    }

    private static void askedByAnother() {
        check.under("Else, if t is usable: a neighbour s is made or changed by the link number");
        for (int state = NO_STATE; state <= Hosts.DUPLICATE; state++) {
            LinkHost host = with(state);
            int sent = host.count(6);
            host.asked(FRIEND, FORMED, 3);
            check.due("state " + state + ": sent", host.count(6),
                    isUsable(state) ? sent + 1 : sent);
            if (isUsable(state)) {
                check.out("state " + state, host, 0, 3, FRIEND, FORMED);
            }
            check.due("state " + state + ": neighbour", host.neighbour(FRIEND),
                    isUsable(state) ? Hosts.known(Hosts.STALE, 3) : 0);
            if (state != NO_STATE) {
                check.due("its state is as it was", host.own(1), Hosts.owned(state, FORMED));
            }
        }
    }

    private static void told() {
        check.under("if t is an own tentative one, it is duplicate");
        for (int state = Hosts.TENTATIVE; state <= Hosts.DUPLICATE; state++) {
            for (int flags = 0; flags <= 7; flags++) {
                LinkHost host = with(state);
                host.told(FORMED, 3, flags);
                check.due("state " + state + ", flags " + flags, host.own(1), Hosts.owned(
                        state == Hosts.TENTATIVE ? Hosts.DUPLICATE : state, FORMED));
                check.due("no neighbour is made", host.count(4), 0);
            }
        }
    }

    private static void sendsWithAnAddressOfTheRightKind() {
        check.under("4 NO ADDRESS");
        LinkHost early = new LinkHost(7);
        early.prefix(5, 3, 1000, 1000);
        check.due("both are tentative: local", early.send(FRIEND, 5), 4);
        check.due("both are tentative: not local", early.send(NEAR, 5), 4);
        early.tick(1);
        check.due("one tick: local", early.send(FRIEND, 5), 4);
        check.due("one tick: not local", early.send(NEAR, 5), 4);
        early.tick(1);
        check.due("two ticks: local", early.send(FRIEND, 5), 1);
        check.due("two ticks: not local", early.send(NEAR, 5), 1);
        LinkHost late = new LinkHost(7);
        late.tick(1);
        late.prefix(5, 3, 1000, 1000);
        late.tick(1);
        check.due("the local one is usable", late.send(FRIEND, 5), 1);
        check.due("prefix 2 is not LOCAL", late.send(Hosts.address(2, 9), 5), 4);
        check.due("the other one is not yet", late.send(NEAR, 5), 4);
        late.tick(1);
        check.due("the other one is usable", late.send(NEAR, 5), 1);
        check.due("for any prefix", late.send(Hosts.address(2, 9), 5), 3);
    }
}
