/** A new console has no cartridge. */
public final class FirstTest {
    public static void main(String[] args) {
        if (new PadConsole(0).card(1) != 0) {
            System.out.println("card(1) of a new console is not 0");
            System.exit(1);
        }
    }
}
