import java.lang.reflect.InvocationTargetException;
import java.util.Arrays;

/**
 * Runs the main method of a test, and ends it with exit code 1 if nothing was finished for too long: a call that never
 * ends is a fault, too.
 */
public final class Watch {
    private static final int SECONDS = 300;
    /** What a test does just now, if it tells it. */
    static volatile String doing = "";

    private Watch() {
    }

    public static void main(String[] args) throws Throwable {
        doing = args[0];
        Thread thread = new Thread(Watch::look, "watch");
        thread.setDaemon(true);
        thread.start();
        try {
            Class.forName(args[0]).getMethod("main", String[].class).invoke(null,
                    (Object) Arrays.copyOfRange(args, 1, args.length));
        } catch (InvocationTargetException thrown) {
            throw thrown.getCause();
        }
    }

    private static void look() {
        String before = doing;
        int seconds = 0;
        while (seconds < SECONDS) {
            try {
                Thread.sleep(1000);
            } catch (InterruptedException interrupted) {
                return;
            }
            seconds = doing.equals(before) ? seconds + 1 : 0;
            before = doing;
        }
        System.out.println("no end after " + SECONDS + " seconds: " + doing);
        Runtime.getRuntime().halt(1);
    }
}
