import java.nio.charset.StandardCharsets;
import java.util.ArrayList;
import java.util.Arrays;
import java.util.List;

/**
 * A run of calls that can be done anew on another object. So what a call changed is seen by holding the run with it
 * against the run without it, and no object is called more often than the document allows.
 */
final class Story {
    private static final int MOST_CALLS = 512;

    // What is done ahead of looking at all that is told: a change that no look shows may show behind these.
    private static final String[] AHEAD_OF_LOOKS = {"", "pass(1)", "pass(40)", "text()", "undo()",
        "undo() undo() undo()", "undo() undo() undo() undo() undo() undo() undo() undo() undo() undo() undo()"};

    private final String test;
    private final List<Call> run = new ArrayList<>();
    private final DunningHouse house = new DunningHouse();
    private List<Probe> probes;

    /** Calls that are done behind the run, and what they answer there. */
    private static final class Probe {
        final List<Call> calls;
        final List<String> answers;

        Probe(List<Call> calls, List<String> answers) {
            this.calls = calls;
            this.answers = answers;
        }
    }

    private Story() {
        test = StackWalker.getInstance().walk(frames -> frames.map(StackWalker.StackFrame::getMethodName)
            .filter(name -> name.startsWith("promise")).findFirst().orElse("story"));
    }

    static Story fresh() {
        return new Story();
    }

    static Story told(String text) {
        Story story = new Story();
        tape(text).forEach(call -> story.does(call.toString()));
        return story.does("text()");
    }

    /** Calls that put a text on an empty tape. */
    private static List<Call> tape(String text) {
        byte[] bytes = text.getBytes(StandardCharsets.ISO_8859_1);
        List<Call> calls = new ArrayList<>();
        for (int i = 0; i < bytes.length; i += 20) {
            int[] five = new int[5];
            for (int k = 0; k < 20; k++) {
                five[k / 4] = five[k / 4] << 8 | (i + k < bytes.length ? bytes[i + k] & 255 : 0);
            }
            String numbers = Arrays.toString(five);
            calls.add(new Call("feed(" + numbers.substring(1, numbers.length() - 1) + ")"));
        }
        calls.add(new Call("end(" + bytes.length + ")"));
        return calls;
    }

    private static List<Call> calls(String written) {
        List<Call> calls = new ArrayList<>();
        for (String call : written.split("(?<=\\)) *")) {
            if (!call.isEmpty()) {
                calls.add(new Call(call));
            }
        }
        return calls;
    }

    private String where(String call) {
        return test + ", behind " + (run.size() > 12 ? run.size() + " calls" : run) + ": " + call;
    }

    private String doNext(Call call) {
        run.add(call);
        probes = null;
        Check.same(test + ": calls of one object, too many", run.size() > MOST_CALLS, false);
        return call.on(house);
    }

    /** The next call of the run, and the answer that is due. */
    Story due(String call, Object answer) {
        String where = where(call);
        Check.same(where, doNext(new Call(call)), String.valueOf(answer));
        return this;
    }

    /** The next calls of the run, none of which is refused. */
    Story does(String written) {
        for (Call call : calls(written)) {
            String where = where(call.toString());
            String answer = doNext(call);
            boolean isRefused = answer.startsWith("-") || answer.equals("false") || answer.startsWith("throws");
            Check.same(where + " is refused with " + answer, isRefused, false);
        }
        return this;
    }

    /** A text is told next: what text() and fault() answer; the tape is empty then. */
    Story tells(String text, int answer, int kind) {
        tape(text).forEach(this::doNext);
        return due("text()", answer).due("fault()", kind).due("now(10)", 0);
    }

    /** A text with a FAULT: all stays, but for the tape and fault(). It is no part of the run. */
    Story refusesText(String text, int answer, int kind) {
        List<Call> calls = tape(text);
        calls.add(new Call("text()"));
        List<Call> end = List.of(new Call("fault()"), new Call("now(10)"));
        List<String> due = List.of(String.valueOf(kind), "0");
        String where = where("a text of " + text.length() + " bytes, '" + text + "'");
        DunningHouse x = done(run, calls.subList(0, calls.size() - 1));
        Check.same(where, calls.get(calls.size() - 1).on(x), String.valueOf(answer));
        Check.same(where, answers(x, end).toString(), due.toString());
        staysBehind(where, calls, "fault()");
        return this;
    }

    /** A call whose answer is due and that changes nothing. It is no part of the run. */
    Story refused(String call, Object answer) {
        Call asked = new Call(call);
        Check.same(where(call), asked.on(done(run, List.of())), String.valueOf(answer));
        staysBehind(where(call), List.of(asked), "");
        return this;
    }

    /** The same with each of these numbers in the place of the sign ?. */
    Story refusedWith(String call, Object answer, String... numbers) {
        for (String number : numbers) {
            refused(call.replace("?", number), answer);
        }
        return this;
    }

    /** A call that only looks: it, too, answers what is due and changes nothing. */
    Story looks(String call, Object answer) {
        return refused(call, answer);
    }

    /** Calls that change nothing, all in all: an act and its undo(). */
    Story changesNothing(String written) {
        staysBehind(where(written), calls(written), "");
        return this;
    }

    /** This run and another leave two objects of which all calls tell the same. */
    void isLike(Story other) {
        for (Probe probe : probes()) {
            List<String> others = answers(done(other.run, List.of()), probe.calls);
            compare(where("held against " + other.run.size() + " other calls"), probe, others, "");
        }
    }

    private void staysBehind(String where, List<Call> extra, String notLookedAt) {
        for (Probe probe : probes()) {
            compare(where, probe, answers(done(run, extra), probe.calls), notLookedAt);
        }
    }

    private static void compare(String where, Probe probe, List<String> answers, String notLookedAt) {
        for (int i = 0; i < answers.size(); i++) {
            if (!probe.calls.get(i).toString().equals(notLookedAt)) {
                Check.same(where + ", then " + probe.calls.get(i), answers.get(i), probe.answers.get(i));
            }
        }
    }

    private static DunningHouse done(List<Call> first, List<Call> then) {
        DunningHouse x = new DunningHouse();
        answers(x, first);
        answers(x, then);
        return x;
    }

    private static List<String> answers(DunningHouse x, List<Call> calls) {
        List<String> answers = new ArrayList<>();
        for (Call call : calls) {
            answers.add(call.on(x));
        }
        return answers;
    }

    private List<Probe> probes() {
        if (probes == null) {
            probes = new ArrayList<>();
            for (String written : AHEAD_OF_LOOKS) {
                addProbes(calls(written));
            }
        }
        return probes;
    }

    private void addProbes(List<Call> ahead) {
        List<Call> looks = allLooks(done(run, ahead));
        // 40 calls are left for what is held against the run.
        int room = MOST_CALLS - run.size() - ahead.size() - 40;
        Check.same(test + ": no room is left to look", room < 1, false);
        for (int from = 0; from < looks.size(); from += room) {
            List<Call> calls = new ArrayList<>(ahead);
            calls.addAll(looks.subList(from, Math.min(looks.size(), from + room)));
            probes.add(new Probe(calls, answers(done(run, List.of()), calls)));
        }
    }

    /** Calls that tell all that an object can tell. */
    private static List<Call> allLooks(DunningHouse x) {
        List<Call> looks = new ArrayList<>();
        looks.add(new Call("fault()"));
        for (int what = 0; what <= 10; what++) {
            looks.add(new Call("now(" + what + ")"));
        }
        addLooks(looks, "step", x.now(1), 0, 2);
        addLooks(looks, "invoice", x.now(3), 0, 6);
        addLooks(looks, "order", x.now(4), 0, 3);
        int debtors = x.now(2);
        addLooks(looks, "debtor", debtors, 0, 10);
        addLooks(looks, "promised", debtors, 0, 2);
        addLooks(looks, "planned", debtors, 0, 2);
        addLooks(looks, "planned", debtors, 10, 22);
        addLooks(looks, "planned", debtors, 30, 42);
        addLooks(looks, "aged", debtors, 0, 4);
        for (int i = 0; i < debtors; i++) {
            looks.add(new Call("next(" + i + ")"));
            looks.add(new Call("would(" + i + ", 50)"));
        }
        return looks;
    }

    private static void addLooks(List<Call> looks, String name, int count, int least, int most) {
        for (int i = 0; i < count; i++) {
            for (int what = least; what <= most; what++) {
                looks.add(new Call(name + "(" + i + ", " + what + ")"));
            }
        }
    }
}
