import java.lang.management.ManagementFactory;

/**
 * The dearest runs of 512 calls each, and what they make. Each object and each element takes a byte at least, so a
 * run that makes fewer bytes than there is room for elements keeps within the room.
 */
public final class Room {
    private static final long MOST = 7_300_000L;
    private static final String LARGE = "v=01;*{u=u3;+{v=v1u;}{x=x2;}*{y=y3'abc';#u1{u=u'a';?v2{x=0;}{y=v;}}}}!u0;!v1;";
    private static int wrong;

    private Room() {
    }

    public static void main(String[] args) {
        for (int kind = 0; kind < 7; kind++) {
            measure(kind);
            measure(kind);
        }
        if (wrong > 0) {
            System.exit(1);
        }
    }

    private static void measure(int kind) {
        com.sun.management.ThreadMXBean bean = (com.sun.management.ThreadMXBean) ManagementFactory.getThreadMXBean();
        long id = Thread.currentThread().getId();
        long before = bean.getThreadAllocatedBytes(id);
        run(kind);
        long made = bean.getThreadAllocatedBytes(id) - before;
        System.out.println("Room: run " + kind + " makes " + made + " bytes");
        if (made > MOST) {
            wrong++;
        }
    }

    private static int write(TextValues t, String text) {
        t.clear();
        for (int i = 0; i < text.length(); i++) {
            t.type(text.charAt(i));
        }
        return text.length() + 1;
    }

    private static void run(int kind) {
        TextValues t = new TextValues();
        // CHAIN of the first two goes through 6144 states.
        String[] patterns = {".*a..", "(..........)*", "(.........)*", "(b|c|a(b|c)*a)*"};
        int calls = 6;
        for (int i = 0; i < 4; i++) {
            calls += write(t, patterns[i]);
            t.pattern(i);
        }
        calls += write(t, kind == 0 ? "*{}".repeat(40) : LARGE);
        t.program();
        if (kind == 6) {
            calls += write(t, patterns[1]);
        }
        for (int i = 0; calls < 512; i++) {
            calls++;
            repeat(t, kind, i);
        }
    }

    private static void repeat(TextValues t, int kind, int i) {
        switch (kind) {
            case 0:
                t.program();
                break;
            case 1:
                t.sets(0, i % 6);
                t.digest();
                break;
            case 2:
                t.runs(i);
                break;
            case 3:
                t.many(i % 8, 20);
                break;
            case 4:
                t.text(i % 8, 20, i);
                break;
            case 5:
                // 512 new objects instead of 512 calls
                new TextValues().digest();
                break;
            default:
                t.pattern(i % 4);
                t.within(i % 8, i * 3 % 8);
                t.alarm(i % 2, 2);
                t.caught();
                break;
        }
    }
}
