import java.lang.reflect.Method;
import java.nio.charset.StandardCharsets;
import java.util.ArrayList;
import java.util.List;
import java.util.Map;
import java.util.TreeMap;
import java.util.function.Supplier;

/**
 * An object of the class under test, called by the words of a call: due("least(1, 0, -1)", 230). A wrong answer is
 * told with the sentence of the document that it breaks. No object is called more often than the document allows.
 */
final class Stage {
    static final int BAD = -1, NO = -2, FULL = -3, NONE = -4;
    private static final int MOST_CALLS = 512;
    private static final Map<String, Method> METHODS = new TreeMap<>();
    private static String sentence;
    private static int answersAhead, sentences, answers, wrongs;

    static {
        for (Method m : OnByThursday.class.getDeclaredMethods()) {
            METHODS.put(m.getName(), m);
        }
    }

    private final OnByThursday x = new OnByThursday();
    private int calls;

    /** An object as it is when new. */
    static Stage empty() {
        return new Stage();
    }

    /** An object with a company that is laid. */
    static Stage of(String text) {
        Stage s = empty().put(text);
        if (s.call("lay()") < 1) {
            tellWrong("not laid, fault " + s.call("fault()") + ": " + text);
        }
        return s;
    }

    /** The words of the document that the answers from here on hold it to. */
    static void says(String where, String words) {
        endSentence();
        sentence = where + " (" + words + ")";
        sentences++;
    }

    private static void endSentence() {
        if (sentence != null && answers == answersAhead) {
            tellWrong("nothing was asked");
        }
        answersAhead = answers;
    }

    static void end() {
        endSentence();
        System.out.println(sentences + " sentences, " + answers + " answers, " + wrongs + " wrong");
        if (wrongs > 0) {
            System.exit(1);
        }
    }

    static void tellWrong(String what) {
        wrongs++;
        if (wrongs <= 40) {
            System.out.println(sentence + ": " + what);
        }
    }

    /** The text comes behind what is there, eight bytes at a time. */
    Stage put(String text) {
        byte[] bytes = text.getBytes(StandardCharsets.ISO_8859_1);
        for (int at = 0; at < bytes.length; at += 8) {
            int n = Math.min(8, bytes.length - at);
            long v = 0;
            for (int b = 0; b < n; b++) {
                v = v << 8 | bytes[at + b] & 255;
            }
            countCall("write");
            if (x.write(n, v) < n) {
                tellWrong("not written: " + text);
            }
        }
        return this;
    }

    private void countCall(String call) {
        calls++;
        if (calls == MOST_CALLS + 1) {
            tellWrong("the test calls one object too often: " + call);
        }
    }

    long call(String words) {
        countCall(words);
        int open = words.indexOf('(');
        Method m = METHODS.get(words.substring(0, open));
        String inside = words.substring(open + 1, words.length() - 1);
        String[] numbers = inside.isEmpty() ? new String[0] : inside.split(", *");
        Class<?>[] types = m.getParameterTypes();
        Object[] arguments = new Object[numbers.length];
        for (int a = 0; a < numbers.length; a++) {
            long value = numberOf(numbers[a]);
            if (types[a] == long.class) {
                arguments[a] = value;
            } else {
                arguments[a] = (int) value;
            }
        }
        try {
            return ((Number) m.invoke(x, arguments)).longValue();
        } catch (ReflectiveOperationException e) {
            throw new IllegalStateException(words, e);
        }
    }

    private static long numberOf(String word) {
        switch (word) {
            case "MIN": return Integer.MIN_VALUE;
            case "MAX": return Integer.MAX_VALUE;
            default: return Long.parseLong(word);
        }
    }

    /** A call whose answer is not looked at. */
    Stage then(String words) {
        call(words);
        return this;
    }

    /** With a # in the words: that is 0, 1, 2, .. for the answers that are due. */
    Stage due(String words, long... wants) {
        for (int n = 0; n < wants.length; n++) {
            String one = words.replace("#", Integer.toString(n));
            compare(one, call(one), wants[n]);
        }
        return this;
    }

    static void compare(String what, long got, long want) {
        answers++;
        if (got != want) {
            tellWrong(what + " answered " + got + ", due is " + want);
        }
    }

    /** The same answer is due to several calls: one for each of the numbers in the place of #. */
    Stage dueAll(String words, long want, String... numbers) {
        for (String n : numbers) {
            due(words.replace("#", n), want);
        }
        return this;
    }

    /** A refused call changes nothing: a twin that was not called so answers all that can be asked alike. */
    static void refused(Supplier<Stage> maker, String words, long want) {
        Stage called = maker.get();
        called.due(words, want);
        List<String> behind = called.tellAll();
        List<String> without = maker.get().tellAll();
        answers++;
        if (!behind.equals(without)) {
            tellWrong(words + " changed something:\n  " + behind + "\n  " + without);
        }
    }

    /** All that can be asked; it uses the object up. */
    private List<String> tellAll() {
        List<String> all = new ArrayList<>();
        tellCompany(all);
        tellDays(all);
        all.add("wrong " + call("wrong()"));
        for (int p = 0; p < call("count(0)"); p++) {
            all.add("told " + call("told(" + p + ", 0)"));
        }
        while (call("count(5)") > 0) {
            all.add("back " + call("back()"));
            tellDays(all);
        }
        all.add("fault " + call("fault()"));
        all.add("lay " + call("lay()"));
        tellCompany(all);
        all.add("wipe " + call("wipe()"));
        return all;
    }

    private void tellCompany(List<String> all) {
        long players = call("count(0)"), parts = call("count(1)");
        for (int what = 0; what < 7; what++) {
            all.add("count " + call("count(" + what + ")"));
        }
        for (int p = 0; p < players; p++) {
            for (int what = 0; what < 5; what++) {
                all.add("player " + call("player(" + p + ", " + what + ")"));
            }
        }
        for (int i = 0; i < parts; i++) {
            for (int what = 0; what < 6; what++) {
                all.add("part " + call("part(" + i + ", " + what + ")"));
            }
        }
        all.add("ways " + call("ways(0, 0)") + " cold " + call("cold(1, 3, 0)") + " weak " + call("weak(2, 0)"));
    }

    private void tellDays(List<String> all) {
        all.add("today " + call("count(4)") + " trouble " + call("least(0, 0, -1)"));
        for (int p = 0; p < call("count(0)"); p++) {
            all.add("owed " + call("owed(" + p + ")"));
            for (int i = 0; i < call("count(1)"); i++) {
                all.add("lines " + call("lines(" + p + ", " + i + ")"));
            }
        }
    }
}
