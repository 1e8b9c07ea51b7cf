final class LanguageTest { static void run() {} }
