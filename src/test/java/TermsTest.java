/** What the words of the document mean, where no other test holds a sentence by itself. */
public final class TermsTest {
    private static final Check check = new Check("TermsTest");
    private static final int OWN = Hosts.local(7);
    private static final int FRIEND = Hosts.local(9);

    public static void main(String[] args) {
        addressesOfEachPrefix();
        addressesOfEachId();
        noneAndGroup();
        linkNumbers();
        ownAddressesAreAddressesToo();
        eachAnswerOfSend();
        toWhomItIsSent();
        faultsOfOtherKinds();
        smallerOfAnyAddress();
        check.end();
    }

    private static void addressesOfEachPrefix() {
        check.under("AN ADDRESS is 256 * PREFIX + ID");
        for (int prefix = 2; prefix <= 250; prefix++) {
            LinkHost host = Hosts.ready(7);
            host.prefix(prefix, 3, 1000, 1000);
            host.tick(2);
            check.due("prefix " + prefix, host.own(1) - 65536 * Hosts.PREFERRED, 256 * prefix + 7);
            check.due("its prefix is on link", host.send(256 * prefix + 9, 5), 1);
            check.due("the one below", host.send(256 * prefix - 256 + 9, 5), prefix == 2 ? 1 : 3);
        }
    }

    private static void addressesOfEachId() {
        check.under("ids are 1 .. 254, prefixes 1 (LOCAL), 2 .. 250");
        for (int id = 1; id <= 254; id++) {
            LinkHost host = Hosts.ready(id);
            check.due("id " + id, host.own(0), Hosts.owned(Hosts.PREFERRED, 256 + id));
            int other = id == 254 ? 1 : id + 1;
            host.router(other, 3, 10, 0);
            check.due("router " + other, host.neighbour(256 + other),
                    Hosts.known(Hosts.STALE, 3) + Hosts.ROUTER);
            check.due("sent", host.send(256 + other, 5), 0);
        }
    }

    private static void noneAndGroup() {
        check.under("0 is NONE; GROUP is 65535.");
        LinkHost host = Hosts.ready(7);
        host.asked(0, OWN, 3);
        check.due("told to GROUP", host.outTo(0), 65535);
        check.due("data to GROUP from NONE", Hosts.come(host, 0, 65535, 6, 0), 1);
        check.due("taken", host.count(8), 1);
        check.badArgument("GROUP is no address", () -> host.send(65535, 5));
        check.badArgument("NONE is no address", () -> host.send(0, 5));
    }

    private static void linkNumbers() {
        check.under("LINK NUMBERS are 1 .. 99.");
        for (int number = 1; number <= 99; number++) {
            LinkHost host = Hosts.ready(7);
            host.router(9, number, 10, 0);
            check.due("of a router", host.neighbour(FRIEND) / 8 % 128, number);
            host.asked(Hosts.local(10), OWN, number);
            check.due("of an asker", host.neighbour(Hosts.local(10)) / 8 % 128, number);
            host.send(Hosts.local(11), 5);
            check.due("0 while it is sought", host.neighbour(Hosts.local(11)) / 8 % 128, 0);
            host.told(Hosts.local(11), number, 0);
            check.due("of one that was sought", host.neighbour(Hosts.local(11)) / 8 % 128, number);
        }
    }

    /** The document makes no exception for them, neither as neighbours nor as senders. */
    private static void ownAddressesAreAddressesToo() {
        check.under("The HOP is the address itself");
        LinkHost host = Hosts.ready(7);
        check.due("sent to itself", host.send(OWN, 5), 1);
        check.out("asked for", host, 0, 2, Hosts.GROUP, OWN);
        check.due("sought", host.neighbour(OWN), Hosts.SOUGHT + Hosts.WAITS);
        check.under("a neighbour s is made or changed by the link number");
        host.asked(OWN, OWN, 3);
        check.out("what waits is sent", host, 1, 4, OWN, 5);
        check.out("told to itself", host, 0, 3, OWN, OWN);
        check.due("found", host.neighbour(OWN), Hosts.known(Hosts.DELAY, 3));
        check.under("otherwise, for a neighbour t");
        host.told(OWN, 4, 7);
        check.due("told of", host.neighbour(OWN), Hosts.known(Hosts.REACHABLE, 4) + Hosts.ROUTER);
        check.due("not duplicate", host.own(0), Hosts.owned(Hosts.PREFERRED, OWN));
        check.under("kind 5, to where it came from");
        Hosts.come(host, OWN, OWN, 5, 2);
        check.out("an echo to itself", host, 0, 5, OWN, 2);
    }

    private static void eachAnswerOfSend() {
        check.under("Sends a packet: what became of it (0 .. 4).");
        LinkHost host = Hosts.ready(7);
        int far = Hosts.address(20, 9);
        check.due("no address", host.send(far, 5), 4);
        host.prefix(5, 2, 1000, 1000);
        host.tick(2);
        check.due("no way", host.send(far, 5), 3);
        host.smaller(far, 8);
        check.due("too great", host.send(far, 9), 2);
        check.due("waits", host.send(FRIEND, 5), 1);
        host.router(10, 3, 1000, 0);
        check.due("sent", host.send(far, 8), 0);
    }

    private static void toWhomItIsSent() {
        LinkHost host = Hosts.withPrefix(7);
        host.router(10, 3, 1000, 0);
        host.send(Hosts.address(20, 9), 31);
        check.under("To which address it was sent.");
        check.due("to the hop, not to the end", host.outTo(0), Hosts.local(10));
        check.due("a probe before it", host.outTo(1), Hosts.GROUP);
        check.under("Its X.");
        check.due("the size", host.outX(0), 31);
        check.due("the address", host.outX(1), Hosts.address(5, 7));
    }

    private static void faultsOfOtherKinds() {
        check.under("7 .. 9: a fault 1.");
        for (int kind = 4; kind <= 9; kind++) {
            LinkHost host = Hosts.ready(7);
            check.due("kind " + kind, Hosts.come(host, FRIEND, OWN, 3, 0, kind, 0, 6, 0), 2);
            boolean fault = kind >= 7;
            check.due("kind " + kind + ": bucket", host.count(9), fault ? 2 : 3);
            if (fault) {
                check.out("kind " + kind, host, 0, 6, FRIEND, 16 + 1);
            }
        }
    }

    private static void smallerOfAnyAddress() {
        check.under("Heard that packets to an address may have a size.");
        int[] any = {OWN, FRIEND, Hosts.address(5, 9), Hosts.address(250, 254), 257};
        for (int address : any) {
            LinkHost host = Hosts.ready(7);
            host.smaller(address, 20);
            for (int other : any) {
                check.due(address + ", asked for " + other, host.sizeTo(other),
                        other == address ? 20 : 40);
            }
        }
    }
}
