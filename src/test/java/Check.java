import java.nio.charset.StandardCharsets;
import java.util.List;

/** What the tests share: comparing answers with what is due, and handing in siege texts. */
final class Check {
    private final String name;
    private int done;
    private int wrong;

    Check(String name) {
        this.name = name;
    }

    void due(String call, long got, long want) {
        done++;
        if (got != want) {
            wrong++;
            System.out.println(name + ": " + call + " answered " + got + ", due is " + want);
        }
    }

    void due(String call, boolean got, boolean want) {
        due(call, got ? 1 : 0, want ? 1 : 0);
    }

    /** Texts of lines: the first line that differs is told. */
    void dueText(String what, String got, String want) {
        done++;
        if (!got.equals(want)) {
            wrong++;
            int line = 0;
            List<String> gotLines = got.lines().toList();
            List<String> wantLines = want.lines().toList();
            while (lineOf(gotLines, line).equals(lineOf(wantLines, line)) && line < gotLines.size()) {
                line++;
            }
            System.out.println(name + ": " + what + " line " + line + " is " + lineOf(gotLines, line)
                    + ", due is " + lineOf(wantLines, line));
        }
    }

    private static String lineOf(List<String> lines, int line) {
        return line < lines.size() ? lines.get(line) : "missing";
    }

    /** A text that is a siege. */
    void good(String text) {
        BalloonMail mail = new BalloonMail();
        due("parse of '" + text + "'", parse(mail, text), 0);
        due("errorPosition of '" + text + "'", mail.errorPosition(), BalloonMail.NONE);
    }

    /** A text with an error. */
    void bad(String text, int code, int position) {
        BalloonMail mail = new BalloonMail();
        due("parse of '" + text + "'", parse(mail, text), code);
        due("errorPosition of '" + text + "'", mail.errorPosition(), position);
    }

    void dueThrows(String call, Runnable run) {
        done++;
        try {
            run.run();
        } catch (RuntimeException e) {
            if (e.getClass() == IndexOutOfBoundsException.class) {
                return;
            }
        }
        wrong++;
        System.out.println(name + ": " + call + " did not throw IndexOutOfBoundsException");
    }

    void finish() {
        System.out.println(name + ": " + done + " checks, " + wrong + " wrong");
        if (wrong != 0 || done == 0) {
            System.exit(1);
        }
    }

    /** The words of the calls of append for a text, filled up with spaces to a multiple of 20 bytes. */
    static int[][] words(String text) {
        byte[] bytes = text.getBytes(StandardCharsets.ISO_8859_1);
        int[][] words = new int[(bytes.length + 19) / 20][5];
        for (int k = 0; k < words.length * 20; k++) {
            int sign = k < bytes.length ? bytes[k] & 255 : ' ';
            words[k / 20][k % 20 / 4] = words[k / 20][k % 20 / 4] << 8 | sign;
        }
        return words;
    }

    static void append(BalloonMail mail, String text) {
        for (int[] w : words(text)) {
            mail.append(w[0], w[1], w[2], w[3], w[4]);
        }
    }

    static int parse(BalloonMail mail, String text) {
        append(mail, text);
        return mail.parse(text.length());
    }

    static BalloonMail siege(String text) {
        BalloonMail mail = new BalloonMail();
        int code = parse(mail, text);
        if (code != 0) {
            throw new IllegalStateException("the siege of a test has error " + code + " at "
                    + mail.errorPosition() + ": " + text);
        }
        return mail;
    }
}
