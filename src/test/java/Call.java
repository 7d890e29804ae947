import java.util.NoSuchElementException;

/** One call of the face, written as a text, "pay(0, 25)"; MIN and MAX are the least and the greatest int. */
final class Call {
    static final String NO_SUCH = "throws.NoSuchElementException";

    private final String text;
    private final String name;
    private final int[] n;

    Call(String text) {
        int open = text.indexOf('(');
        this.text = text;
        name = text.substring(0, open);
        String inside = text.substring(open + 1, text.length() - 1).trim();
        String[] parts = inside.isEmpty() ? new String[0] : inside.split("\\s*,\\s*");
        n = new int[parts.length];
        for (int i = 0; i < parts.length; i++) {
            n[i] = number(parts[i]);
        }
    }

    private static int number(String text) {
        switch (text) {
            case "MIN": return Integer.MIN_VALUE;
            case "MAX": return Integer.MAX_VALUE;
            default: return Long.decode(text).intValue();
        }
    }

    @Override
    public String toString() {
        return text;
    }

    /** What the call answers; an exception by its name behind "throws.". */
    String on(DunningHouse x) {
        try {
            return name.equals("end") || name.equals("dispute") || name.equals("cancel")
                ? String.valueOf(isTrue(x)) : String.valueOf(number(x));
        } catch (NoSuchElementException e) {
            return NO_SUCH;
        } catch (RuntimeException e) {
            return "throws." + e.getClass().getSimpleName();
        }
    }

    private boolean isTrue(DunningHouse x) {
        switch (name) {
            case "end": return x.end(n[0]);
            case "dispute": return x.dispute(n[0]);
            default: return x.cancel(n[0]);
        }
    }

    private int number(DunningHouse x) {
        switch (name) {
            case "feed": return x.feed(n[0], n[1], n[2], n[3], n[4]);
            case "text": return x.text();
            case "fault": return x.fault();
            case "now": return x.now(n[0]);
            case "step": return x.step(n[0], n[1]);
            case "debtor": return x.debtor(n[0], n[1]);
            case "invoice": return x.invoice(n[0], n[1]);
            case "promised": return x.promised(n[0], n[1]);
            case "planned": return x.planned(n[0], n[1]);
            case "order": return x.order(n[0], n[1]);
            case "aged": return x.aged(n[0], n[1]);
            case "next": return x.next(n[0]);
            case "would": return x.would(n[0], n[1]);
            case "bill": return x.bill(n[0], n[1], n[2]);
            case "pay": return x.pay(n[0], n[1]);
            case "settle": return x.settle(n[0], n[1]);
            case "promise": return x.promise(n[0], n[1], n[2]);
            case "plan": return x.plan(n[0], n[1], n[2]);
            case "asks": return x.asks(n[0], n[1]);
            case "ships": return x.ships(n[0]);
            case "pass": return x.pass(n[0]);
            case "undo": return x.undo();
            default: throw new IllegalArgumentException(text);
        }
    }
}
