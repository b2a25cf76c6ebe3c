import java.nio.charset.StandardCharsets;

/** What the tests share: comparing answers with what is due, and handing in siege texts. */
final class Check {
    private final String name;
    private int done;
    private int wrong;

    Check(String name) {
        this.name = name;
    }

    void due(String call, long got, long want) {
        done++;
        if (got != want) {
            wrong++;
            System.out.println(name + ": " + call + " answered " + got + ", due is " + want);
        }
    }

    void due(String call, boolean got, boolean want) {
        due(call, got ? 1 : 0, want ? 1 : 0);
    }

    void dueThrows(String call, Runnable run) {
        done++;
        try {
            run.run();
        } catch (RuntimeException e) {
            if (e.getClass() == IndexOutOfBoundsException.class) {
                return;
            }
        }
        wrong++;
        System.out.println(name + ": " + call + " did not throw IndexOutOfBoundsException");
    }

    void finish() {
        System.out.println(name + ": " + done + " checks, " + wrong + " wrong");
        if (wrong != 0 || done == 0) {
            System.exit(1);
        }
    }

    /** Appends a text, filled up with spaces to a multiple of 20 bytes; answers what the last append did. */
    static int append(BalloonMail mail, byte[] text) {
        int answer = 0;
        for (int from = 0; from < text.length; from += 20) {
            int[] words = new int[5];
            for (int k = 0; k < 20; k++) {
                int sign = from + k < text.length ? text[from + k] & 255 : ' ';
                words[k / 4] = words[k / 4] << 8 | sign;
            }
            answer = mail.append(words[0], words[1], words[2], words[3], words[4]);
        }
        return answer;
    }

    static int parse(BalloonMail mail, String text) {
        byte[] bytes = text.getBytes(StandardCharsets.ISO_8859_1);
        append(mail, bytes);
        return mail.parse(bytes.length);
    }

    static BalloonMail siege(String text) {
        BalloonMail mail = new BalloonMail();
        int code = parse(mail, text);
        if (code != 0) {
            throw new IllegalStateException("the siege of a test has error " + code + " at "
                    + mail.errorPosition() + ": " + text);
        }
        return mail;
    }
}
