import java.util.ArrayList;
import java.util.Comparator;
import java.util.List;
import java.util.Optional;

/** A second reading of the document, written for its words and not for its cost. */
final class PlainModel {
    static final int NONE = -1;

    private record Alarm(int time, int made, boolean impatient, Customer whose) { }

    private record Sent(int... cells) { }

    private static final class Told {
        int client, kind, moment, tellingMoment = NONE, outcome = 0, place = NONE;
    }

    private static final class Customer {
        int name, target = 0, session = NONE, serial = 0, requestNumber = 0, tries = 0;
        boolean waits = false, requestsOpen = false;
        List<Integer> data = List.of(), answer = List.of();
        Told latest = null;

        boolean hasCommand() {
            return latest.kind < 3;
        }
    }

    private final List<Customer> customers = new ArrayList<>();
    private final List<Alarm> alarms = new ArrayList<>();
    private final List<Sent> sent = new ArrayList<>();
    private final List<Told> told = new ArrayList<>();
    private List<Integer> tape = new ArrayList<>();
    private int now = 0;
    private int moments = 0;
    private int made = 0;

    PlainModel() {
        for (int i = 0; i < 8; i++) {
            Customer customer = new Customer();
            customer.name = i;
            customers.add(customer);
        }
    }

    int feed(long eight, int n) {
        require(1 <= n && n <= 8);
        if (tape.size() + n > 240) {
            throw new IllegalStateException();
        }
        long rest = eight;
        for (int i = 0; i < n; i++) {
            tape.add((int) (rest & 255));
            rest >>= 8;
        }
        return tape.size();
    }

    int ask(int client, int kind, int k, int v) {
        List<Integer> bytes = tape;
        tape = new ArrayList<>();
        Customer customer = customer(client);
        long others = (long) bytes.size() - k - v;
        require(0 <= kind && kind <= 5);
        require(1 <= k && k <= 32);
        require(kind == 1 ? 0 <= v && v <= 100 : v == 0);
        require(others >= 0);
        require(kind < 2 ? others <= 100 : kind == 4 ? 1 <= others && others <= 32 : others == 0);
        if (customer.waits || told.size() == 1024) {
            throw new IllegalStateException();
        }
        Told asking = new Told();
        asking.client = client;
        asking.kind = kind;
        asking.moment = moments++;
        told.add(asking);
        customer.latest = asking;
        customer.waits = true;
        customer.tries = 0;
        customer.data = bytes;
        customer.requestsOpen = customer.hasCommand() && customer.session == NONE;
        newRequest(customer);
        return told.size() - 1;
    }

    boolean giveUp(int client) {
        Customer customer = customer(client);
        if (!customer.waits) {
            return false;
        }
        surrender(customer);
        return true;
    }

    boolean reply(int client, int request, int code, int value) {
        List<Integer> bytes = tape;
        tape = new ArrayList<>();
        Customer customer = customer(client);
        require(0 <= code && code <= 3);
        require(code == 0 ? bytes.size() <= 134 : bytes.isEmpty());
        require(code == 0 ? 1 <= value && value <= 1000000 : code == 1 ? -1 <= value && value <= 6 : value == 0);
        if (!customer.waits || customer.requestNumber != request) {
            return false;
        }
        if (code == 0 && customer.requestsOpen) {
            customer.session = value;
            customer.serial = 0;
            customer.requestsOpen = false;
            newRequest(customer);
        } else if (code == 0) {
            customer.answer = bytes;
            customer.latest.place = value;
            end(customer, 1);
        } else if (code == 1 && value != NONE) {
            customer.target = value;
            send(customer);
        } else if (code == 1) {
            customer.target = (customer.target + 1) % 7;
            alarm(customer, 5, false);
        } else if (code == 2) {
            customer.session = NONE;
            end(customer, 2);
        } else {
            alarm(customer, 20, false);
        }
        return true;
    }

    int tick(int n) {
        require(1 <= n && n <= 1000);
        int end = now + n;
        for (int rang = 0; ; rang++) {
            Optional<Alarm> next = alarms.stream().filter(a -> a.time() <= end)
                    .min(Comparator.comparing(Alarm::time).thenComparing(Alarm::made));
            if (next.isEmpty()) {
                now = end;
                return rang;
            }
            Alarm alarm = next.get();
            alarms.remove(alarm);
            now = alarm.time();
            if (alarm.impatient()) {
                alarm.whose().target = (alarm.whose().target + 1) % 7;
            }
            send(alarm.whose());
        }
    }

    int client(int client, int what) {
        Customer customer = customer(client);
        Optional<Alarm> alarm = alarmOf(customer);
        return pick(what, customer.waits ? 1 : 0, customer.target, customer.session, customer.serial,
                customer.requestNumber, customer.tries, alarm.map(Alarm::time).orElse(NONE),
                alarm.map(Alarm::impatient).orElse(false) ? 1 : 0, customer.requestsOpen ? 1 : 0);
    }

    int request(int k, int what) {
        boolean there = 0 <= k && k < 64 && k < sent.size() && 0 <= what && what < 8;
        return there ? sent.get(sent.size() - 1 - k).cells()[what] : NONE;
    }

    int dataAt(int client, int i) {
        return pick(customer(client).data, i);
    }

    int answer(int client) {
        return customer(client).answer.size();
    }

    int answerAt(int client, int i) {
        return pick(customer(client).answer, i);
    }

    int history(int i, int what) {
        if (i < 0 || i >= told.size()) {
            throw new IndexOutOfBoundsException();
        }
        Told of = told.get(i);
        return pick(what, of.client, of.kind, of.moment, of.tellingMoment, of.outcome, of.place);
    }

    int count(int what) {
        int waiting = (int) customers.stream().filter(c -> c.waits).count();
        int[] counts = {now, told.size(), moments, sent.size(), waiting, tape.size()};
        return 0 <= what && what < counts.length ? counts[what] : NONE;
    }

    private void newRequest(Customer customer) {
        customer.requestNumber++;
        if (customer.hasCommand() && !customer.requestsOpen) {
            customer.serial++;
        }
        send(customer);
    }

    private void send(Customer customer) {
        customer.tries++;
        if (customer.tries > 40) {
            surrender(customer);
            return;
        }
        boolean open = customer.requestsOpen;
        boolean bare = open || !customer.hasCommand();
        sent.add(new Sent(customer.name, customer.target, customer.requestNumber, open ? 6 : customer.latest.kind,
                bare ? NONE : customer.session, bare ? 0 : customer.serial, open ? 0 : customer.data.size(), now));
        alarm(customer, 60, true);
    }

    private void alarm(Customer customer, int wait, boolean impatient) {
        alarmOf(customer).ifPresent(alarms::remove);
        alarms.add(new Alarm(now + wait, made++, impatient, customer));
    }

    private Optional<Alarm> alarmOf(Customer customer) {
        return alarms.stream().filter(a -> a.whose() == customer).findAny();
    }

    private void surrender(Customer customer) {
        if (customer.hasCommand()) {
            customer.session = NONE;
        }
        end(customer, customer.hasCommand() ? 2 : 3);
    }

    private void end(Customer customer, int outcome) {
        customer.latest.outcome = outcome;
        customer.latest.tellingMoment = moments++;
        customer.waits = false;
        customer.requestsOpen = false;
        alarmOf(customer).ifPresent(alarms::remove);
    }

    private Customer customer(int client) {
        if (client < 0 || client > 7) {
            throw new IndexOutOfBoundsException();
        }
        return customers.get(client);
    }

    private static void require(boolean so) {
        if (!so) {
            throw new IllegalArgumentException();
        }
    }

    private static int pick(int what, int... from) {
        if (what < 0 || what >= from.length) {
            throw new IndexOutOfBoundsException();
        }
        return from[what];
    }

    private static int pick(List<Integer> from, int i) {
        if (i < 0 || i >= from.size()) {
            throw new IndexOutOfBoundsException();
        }
        return from.get(i);
    }
}
